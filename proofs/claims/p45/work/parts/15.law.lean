def m_L_law : MD := (code, ⟨"EncoresLaw", "law", "([I)Z"⟩, 17, some .boolean)
def g_L_law_J967_41 (N : Nat) (Lc : Nat) (xs : Nat → Int32) (p3_41 : Nat)  (K994 : Nat → DS → DA) (X : (Nat × Int32 × Int32) → DS → DA) (s2_967 : Nat) (s4_967 : Int32) (s5_967 : Int32) (h : DS) : DA :=
chk (isT h 11 0) <| bdX (f_X11_look N (16 : Int32) h.1) h fun v_970 hh_970 => bnd (gs (f_X12_look N (16 : Int32)) hh_970) fun h_970 =>
if v_970 = s4_967 then (chk (isT h_970 12 s2_967) <| bd3 (g_X12_isSame N s2_967 h_970) fun v_980 h_980 =>
if v_980 = 0 then (some ((0 : Int32), h_980))
else (X (s2_967, s4_967, (s5_967 + 1)) h_980))
else (some ((0 : Int32), h_970))

def g_L_law_J958_41 (N : Nat) (Lc : Nat) (xs : Nat → Int32) (p3_41 : Nat)  (K994 : Nat → DS → DA) (X : (Nat × Int32 × Int32) → DS → DA) (s2_958 : Nat) (s4_958 : Int32) (s5_958 : Int32) (s10_958 : Nat) (h : DS) : DA :=
bo (sQ h 104 p3_41 s4_958 s10_958) fun h_966 =>
g_L_law_J967_41 N Lc xs p3_41 K994 X s2_958 (s4_958 + 1) s5_958 h_966

def g_L_law_L932 (N : Nat) (Lc : Nat) (xs : Nat → Int32) (p2_932 : Nat) (p3_932 : Nat) (p4_932 : Int32) (p5_932 : Int32) (p10_932 : Nat) (K955 : DS → DA) (X : Int32 → DS → DA) (s12_932 : Int32) (h : DS) : DA :=
if (6 : Int32) ≤ s12_932 then (K955 h)
else (bo (lQ h 104 p3_932 s12_932) fun r_947 =>
bo (sQ h 104 p3_932 (s12_932 - (1 : Int32)) r_947) fun h_948 =>
X ((s12_932 + 1)) h_948)

def g_L_law_J917_41 (N : Nat) (Lc : Nat) (xs : Nat → Int32) (p3_41 : Nat)  (K994 : Nat → DS → DA) (X : (Nat × Int32 × Int32) → DS → DA) (s2_917 : Nat) (s4_917 : Int32) (s5_917 : Int32) (s10_917 : Nat) (s11_917 : Int32) (h : DS) : DA :=
if s11_917 = 0 then (g_L_law_J967_41 N Lc xs p3_41 K994 X s2_917 s4_917 s5_917 h)
else (if s4_917 = (6 : Int32) then (jt (fun Y a hz => g_L_law_L932 N Lc xs s2_917 p3_41 s4_917 s5_917 s10_917 (fun hk955 => g_L_law_J958_41 N Lc xs p3_41 K994 X s2_917 (s4_917 + (-1)) s5_917 s10_917 hk955) Y a hz) N (1) h)
else (g_L_law_J958_41 N Lc xs p3_41 K994 X s2_917 s4_917 s5_917 s10_917 h))

def g_L_law_J899_41 (N : Nat) (Lc : Nat) (xs : Nat → Int32) (p3_41 : Nat)  (K994 : Nat → DS → DA) (X : (Nat × Int32 × Int32) → DS → DA) (s2_899 : Nat) (s4_899 : Int32) (s5_899 : Int32) (s10_899 : Nat) (s11_899 : Int32) (t0_899 : Int32) (t1_899 : Int32) (h : DS) : DA :=
if t1_899 = t0_899 then (if s4_899 ≤ 0 then (g_L_law_J917_41 N Lc xs p3_41 K994 X s2_899 s4_899 s5_899 s10_899 s11_899 h)
else (bo (lQ h 104 p3_41 (s4_899 + (-1))) fun r_915 =>
g_L_law_J917_41 N Lc xs p3_41 K994 X r_915 (s4_899 + (-1)) s5_899 s10_899 s11_899 h))
else (some ((0 : Int32), h))

def g_L_law_J847_41 (N : Nat) (Lc : Nat) (xs : Nat → Int32) (p3_41 : Nat)  (K994 : Nat → DS → DA) (X : (Nat × Int32 × Int32) → DS → DA) (s2_847 : Nat) (s4_847 : Int32) (s5_847 : Int32) (s10_847 : Nat) (s11_847 : Int32) (h : DS) : DA :=
g_L_law_J917_41 N Lc xs p3_41 K994 X s2_847 s4_847 s5_847 s10_847 s11_847 h

def g_L_law_J844_41 (N : Nat) (Lc : Nat) (xs : Nat → Int32) (p3_41 : Nat)  (K994 : Nat → DS → DA) (X : (Nat × Int32 × Int32) → DS → DA) (s2_844 : Nat) (s5_844 : Int32) (s10_844 : Nat) (s11_844 : Int32) (h : DS) : DA :=
g_L_law_J847_41 N Lc xs p3_41 K994 X s2_844 0 s5_844 s10_844 s11_844 h

def g_L_law_J827_41 (N : Nat) (Lc : Nat) (xs : Nat → Int32) (p3_41 : Nat)  (K994 : Nat → DS → DA) (X : (Nat × Int32 × Int32) → DS → DA) (s2_827 : Nat) (s5_827 : Int32) (s9_827 : Int32) (s10_827 : Nat) (s11_827 : Int32) (s12_827 : Int32) (s13_827 : Int32) (h : DS) : DA :=
if s12_827 = (5 : Int32) then (bo (nn (dR h s2_827 12 16)) fun r_834 =>
bo (lQ h 103 r_834 s9_827) fun r_839 =>
bo (sA h 100 r_839 (3 : Int32) s13_827) fun h_843 =>
g_L_law_J844_41 N Lc xs p3_41 K994 X s2_827 s5_827 s10_827 s11_827 h_843)
else (g_L_law_J844_41 N Lc xs p3_41 K994 X s2_827 s5_827 s10_827 s11_827 h)

def g_L_law_J810_41 (N : Nat) (Lc : Nat) (xs : Nat → Int32) (p3_41 : Nat)  (K994 : Nat → DS → DA) (X : (Nat × Int32 × Int32) → DS → DA) (s2_810 : Nat) (s5_810 : Int32) (s9_810 : Int32) (s10_810 : Nat) (s11_810 : Int32) (s12_810 : Int32) (s13_810 : Int32) (h : DS) : DA :=
if s12_810 = (4 : Int32) then (bo (nn (dR h s2_810 12 16)) fun r_817 =>
bo (lQ h 103 r_817 s9_810) fun r_822 =>
bo (sA h 100 r_822 (0 : Int32) s13_810) fun h_826 =>
g_L_law_J827_41 N Lc xs p3_41 K994 X s2_810 s5_810 s9_810 s10_810 s11_810 s12_810 s13_810 h_826)
else (g_L_law_J827_41 N Lc xs p3_41 K994 X s2_810 s5_810 s9_810 s10_810 s11_810 s12_810 s13_810 h)

def g_L_law_J785_41 (N : Nat) (Lc : Nat) (xs : Nat → Int32) (p3_41 : Nat)  (K994 : Nat → DS → DA) (X : (Nat × Int32 × Int32) → DS → DA) (s2_785 : Nat) (s5_785 : Int32) (s8_785 : Int32) (s9_785 : Int32) (s10_785 : Nat) (s11_785 : Int32) (s12_785 : Int32) (s13_785 : Int32) (h : DS) : DA :=
if s12_785 ≤ 0 then (g_L_law_J810_41 N Lc xs p3_41 K994 X s2_785 s5_785 s9_785 s10_785 s11_785 s12_785 s13_785 h)
else (if (4 : Int32) ≤ s12_785 then (g_L_law_J810_41 N Lc xs p3_41 K994 X s2_785 s5_785 s9_785 s10_785 s11_785 s12_785 s13_785 h)
else (bo (nn (dR h s2_785 12 15)) fun r_797 =>
bo (lQ h 103 r_797 s8_785) fun r_802 =>
bo (sA h 100 r_802 (s12_785 - (1 : Int32)) s13_785) fun h_809 =>
g_L_law_J810_41 N Lc xs p3_41 K994 X s2_785 s5_785 s9_785 s10_785 s11_785 s12_785 s13_785 h_809))

def g_L_law_J750_41 (N : Nat) (Lc : Nat) (xs : Nat → Int32) (p3_41 : Nat)  (K994 : Nat → DS → DA) (X : (Nat × Int32 × Int32) → DS → DA) (s2_750 : Nat) (s4_750 : Int32) (s5_750 : Int32) (s8_750 : Int32) (s9_750 : Int32) (s10_750 : Nat) (s11_750 : Int32) (s12_750 : Int32) (s13_750 : Int32) (s15_750 : Int32) (t0_750 : Int32) (h : DS) : DA :=
chk (isT h 11 0) <| bdX (f_X11_set N s12_750 s15_750 s13_750 h.1) h fun v_759 hh_759 => bnd (gs (f_X12_set N s12_750 s15_750 s13_750) hh_759) fun h_759 =>
if v_759 = t0_750 then (if t0_750 = 0 then (g_L_law_J847_41 N Lc xs p3_41 K994 X s2_750 s4_750 s5_750 s10_750 s11_750 h_759)
else (if s12_750 = 0 then (bo (wI h_759 s2_750 12 6 s13_750) fun h_782 =>
g_L_law_J785_41 N Lc xs p3_41 K994 X s2_750 s5_750 s8_750 s9_750 s10_750 s11_750 s12_750 s13_750 h_782)
else (g_L_law_J785_41 N Lc xs p3_41 K994 X s2_750 s5_750 s8_750 s9_750 s10_750 s11_750 s12_750 s13_750 h_759)))
else (some ((0 : Int32), h_759))

def g_L_law_J749_41 (N : Nat) (Lc : Nat) (xs : Nat → Int32) (p3_41 : Nat)  (K994 : Nat → DS → DA) (X : (Nat × Int32 × Int32) → DS → DA) (s2_749 : Nat) (s4_749 : Int32) (s5_749 : Int32) (s8_749 : Int32) (s9_749 : Int32) (s10_749 : Nat) (s11_749 : Int32) (s12_749 : Int32) (s13_749 : Int32) (s15_749 : Int32) (h : DS) : DA :=
g_L_law_J750_41 N Lc xs p3_41 K994 X s2_749 s4_749 s5_749 s8_749 s9_749 s10_749 s11_749 s12_749 s13_749 s15_749 (0 : Int32) h

def g_L_law_J745_41 (N : Nat) (Lc : Nat) (xs : Nat → Int32) (p3_41 : Nat)  (K994 : Nat → DS → DA) (X : (Nat × Int32 × Int32) → DS → DA) (s2_745 : Nat) (s4_745 : Int32) (s5_745 : Int32) (s8_745 : Int32) (s9_745 : Int32) (s10_745 : Nat) (s11_745 : Int32) (s12_745 : Int32) (s13_745 : Int32) (s15_745 : Int32) (h : DS) : DA :=
g_L_law_J750_41 N Lc xs p3_41 K994 X s2_745 s4_745 s5_745 s8_745 s9_745 s10_745 s11_745 s12_745 s13_745 s15_745 (1 : Int32) h

def g_L_law_J742_41 (N : Nat) (Lc : Nat) (xs : Nat → Int32) (p3_41 : Nat)  (K994 : Nat → DS → DA) (X : (Nat × Int32 × Int32) → DS → DA) (s2_742 : Nat) (s4_742 : Int32) (s5_742 : Int32) (s8_742 : Int32) (s9_742 : Int32) (s10_742 : Nat) (s11_742 : Int32) (s12_742 : Int32) (s13_742 : Int32) (s15_742 : Int32) (t0_742 : Int32) (t1_742 : Int32) (h : DS) : DA :=
if t0_742 ≤ t1_742 then (g_L_law_J749_41 N Lc xs p3_41 K994 X s2_742 s4_742 s5_742 s8_742 s9_742 s10_742 s11_742 s12_742 s13_742 s15_742 h)
else (g_L_law_J745_41 N Lc xs p3_41 K994 X s2_742 s4_742 s5_742 s8_742 s9_742 s10_742 s11_742 s12_742 s13_742 s15_742 h)

def g_L_law_J706_41 (N : Nat) (Lc : Nat) (xs : Nat → Int32) (p3_41 : Nat)  (K994 : Nat → DS → DA) (X : (Nat × Int32 × Int32) → DS → DA) (s2_706 : Nat) (s4_706 : Int32) (s5_706 : Int32) (s8_706 : Int32) (s9_706 : Int32) (s10_706 : Nat) (s11_706 : Int32) (s12_706 : Int32) (s13_706 : Int32) (s14_706 : Nat) (t0_706 : Int32) (h : DS) : DA :=
bo (lA h 100 s14_706 s12_706) fun a_714 =>
if a_714 < s13_706 then (g_L_law_J749_41 N Lc xs p3_41 K994 X s2_706 s4_706 s5_706 s8_706 s9_706 s10_706 s11_706 s12_706 s13_706 t0_706 h)
else (if s12_706 = 0 then (g_L_law_J745_41 N Lc xs p3_41 K994 X s2_706 s4_706 s5_706 s8_706 s9_706 s10_706 s11_706 s12_706 s13_706 t0_706 h)
else (if s12_706 ≤ (3 : Int32) then (bo (dI h s2_706 12 7) fun a_739 =>
g_L_law_J742_41 N Lc xs p3_41 K994 X s2_706 s4_706 s5_706 s8_706 s9_706 s10_706 s11_706 s12_706 s13_706 t0_706 a_739 t0_706 h)
else (bo (dI h s2_706 12 8) fun a_732 =>
g_L_law_J742_41 N Lc xs p3_41 K994 X s2_706 s4_706 s5_706 s8_706 s9_706 s10_706 s11_706 s12_706 s13_706 t0_706 a_732 t0_706 h)))

def g_L_law_J646_41 (N : Nat) (Lc : Nat) (xs : Nat → Int32) (p3_41 : Nat)  (K994 : Nat → DS → DA) (X : (Nat × Int32 × Int32) → DS → DA) (s2_646 : Nat) (s4_646 : Int32) (s5_646 : Int32) (s8_646 : Int32) (s9_646 : Int32) (s10_646 : Nat) (s11_646 : Int32) (s12_646 : Int32) (t0_646 : Int32) (t1_646 : Int32) (t2_646 : Int32) (h : DS) : DA :=
bd3 (g_L_between N t2_646 t1_646 t0_646 h) fun v_646 h_646 =>
bo (nA h_646 100 (7 : Int32)) fun h_653 =>
bo (sA h_653 100 h_646.2.1.length (0 : Int32) (1000 : Int32)) fun h_660 =>
bo (sA h_660 100 h_646.2.1.length (1 : Int32) (9 : Int32)) fun h_665 =>
bo (sA h_665 100 h_646.2.1.length (2 : Int32) (9 : Int32)) fun h_670 =>
bo (sA h_670 100 h_646.2.1.length (3 : Int32) (9 : Int32)) fun h_675 =>
bo (sA h_675 100 h_646.2.1.length (4 : Int32) (9 : Int32)) fun h_680 =>
bo (sA h_680 100 h_646.2.1.length (5 : Int32) (99 : Int32)) fun h_685 =>
bo (sA h_685 100 h_646.2.1.length (6 : Int32) (-1 : Int32)) fun h_690 =>
if s12_646 ≤ (3 : Int32) then (g_L_law_J706_41 N Lc xs p3_41 K994 X s2_646 s4_646 s5_646 s8_646 s9_646 s10_646 s11_646 s12_646 v_646 h_646.2.1.length s8_646 h_690)
else (g_L_law_J706_41 N Lc xs p3_41 K994 X s2_646 s4_646 s5_646 s8_646 s9_646 s10_646 s11_646 s12_646 v_646 h_646.2.1.length s9_646 h_690)

def g_L_law_J587_41 (N : Nat) (Lc : Nat) (xs : Nat → Int32) (p3_41 : Nat)  (K994 : Nat → DS → DA) (X : (Nat × Int32 × Int32) → DS → DA) (s2_587 : Nat) (s4_587 : Int32) (s5_587 : Int32) (s10_587 : Nat) (s11_587 : Int32) (t0_587 : Int32) (h : DS) : DA :=
if t0_587 = s11_587 then (g_L_law_J917_41 N Lc xs p3_41 K994 X s2_587 s4_587 s5_587 s10_587 s11_587 h)
else (some ((0 : Int32), h))

def g_L_law_J562_41 (N : Nat) (Lc : Nat) (xs : Nat → Int32) (p3_41 : Nat)  (K994 : Nat → DS → DA) (X : (Nat × Int32 × Int32) → DS → DA) (s2_562 : Nat) (s4_562 : Int32) (s5_562 : Int32) (s8_562 : Int32) (s10_562 : Nat) (s11_562 : Int32) (s12_562 : Int32) (s13_562 : Int32) (h : DS) : DA :=
if s12_562 = (4 : Int32) then (chk (isT h 11 0) <| bdX (f_X11_glove N s8_562 s13_562 h.1) h fun v_573 hh_573 => bnd (gs (f_X12_glove N s8_562 s13_562) hh_573) fun h_573 =>
g_L_law_J587_41 N Lc xs p3_41 K994 X s2_562 s4_562 s5_562 s10_562 s11_562 v_573 h_573)
else (chk (isT h 11 0) <| bdX (f_X11_let N s8_562 s13_562 h.1) h fun v_584 hh_584 => bnd (gs (f_X12_let N s8_562 s13_562) hh_584) fun h_584 =>
g_L_law_J587_41 N Lc xs p3_41 K994 X s2_562 s4_562 s5_562 s10_562 s11_562 v_584 h_584)

def g_L_law_J558_41 (N : Nat) (Lc : Nat) (xs : Nat → Int32) (p3_41 : Nat)  (K994 : Nat → DS → DA) (X : (Nat × Int32 × Int32) → DS → DA) (s2_558 : Nat) (s4_558 : Int32) (s5_558 : Int32) (s8_558 : Int32) (s10_558 : Nat) (s11_558 : Int32) (s12_558 : Int32) (s13_558 : Int32) (t0_558 : Int32) (t1_558 : Int32) (t2_558 : Int32) (t3_558 : Nat) (h : DS) : DA :=
chk (isT h 12 t3_558) <| bd3 (g_X12_notes N t3_558 t2_558 t1_558 t0_558 (1 : Int32) h) fun v_559 h_559 =>
g_L_law_J562_41 N Lc xs p3_41 K994 X s2_558 s4_558 s5_558 s8_558 s10_558 s11_558 s12_558 s13_558 h_559

def g_L_law_J546_41 (N : Nat) (Lc : Nat) (xs : Nat → Int32) (p3_41 : Nat)  (K994 : Nat → DS → DA) (X : (Nat × Int32 × Int32) → DS → DA) (s2_546 : Nat) (s4_546 : Int32) (s5_546 : Int32) (s8_546 : Int32) (s10_546 : Nat) (s11_546 : Int32) (s12_546 : Int32) (s13_546 : Int32) (t0_546 : Int32) (t1_546 : Nat) (h : DS) : DA :=
if s13_546 = 0 then (g_L_law_J558_41 N Lc xs p3_41 K994 X s2_546 s4_546 s5_546 s8_546 s10_546 s11_546 s12_546 s13_546 (0 : Int32) s8_546 t0_546 t1_546 h)
else (g_L_law_J558_41 N Lc xs p3_41 K994 X s2_546 s4_546 s5_546 s8_546 s10_546 s11_546 s12_546 s13_546 (1 : Int32) s8_546 t0_546 t1_546 h)

def g_L_law_J533_41 (N : Nat) (Lc : Nat) (xs : Nat → Int32) (p3_41 : Nat)  (K994 : Nat → DS → DA) (X : (Nat × Int32 × Int32) → DS → DA) (s2_533 : Nat) (s4_533 : Int32) (s5_533 : Int32) (s8_533 : Int32) (s10_533 : Nat) (s11_533 : Int32) (s12_533 : Int32) (s13_533 : Int32) (t0_533 : Int32) (t1_533 : Int32) (t2_533 : Nat) (h : DS) : DA :=
bo (sA h 100 t2_533 t1_533 t0_533) fun h_533 =>
if s12_533 = (4 : Int32) then (g_L_law_J546_41 N Lc xs p3_41 K994 X s2_533 s4_533 s5_533 s8_533 s10_533 s11_533 s12_533 s13_533 (4 : Int32) s2_533 h_533)
else (g_L_law_J546_41 N Lc xs p3_41 K994 X s2_533 s4_533 s5_533 s8_533 s10_533 s11_533 s12_533 s13_533 (5 : Int32) s2_533 h_533)

def g_L_law_J507_41 (N : Nat) (Lc : Nat) (xs : Nat → Int32) (p3_41 : Nat)  (K994 : Nat → DS → DA) (X : (Nat × Int32 × Int32) → DS → DA) (s2_507 : Nat) (s4_507 : Int32) (s5_507 : Int32) (s8_507 : Int32) (s10_507 : Nat) (s12_507 : Int32) (s13_507 : Int32) (t0_507 : Int32) (h : DS) : DA :=
if t0_507 = 0 then (g_L_law_J562_41 N Lc xs p3_41 K994 X s2_507 s4_507 s5_507 s8_507 s10_507 t0_507 s12_507 s13_507 h)
else (bo (nn (dR h s2_507 12 15)) fun r_515 =>
bo (lQ h 103 r_515 s8_507) fun r_520 =>
if s13_507 = 0 then (g_L_law_J533_41 N Lc xs p3_41 K994 X s2_507 s4_507 s5_507 s8_507 s10_507 t0_507 s12_507 s13_507 (0 : Int32) s12_507 r_520 h)
else (g_L_law_J533_41 N Lc xs p3_41 K994 X s2_507 s4_507 s5_507 s8_507 s10_507 t0_507 s12_507 s13_507 (1 : Int32) s12_507 r_520 h))

def g_L_law_J506_41 (N : Nat) (Lc : Nat) (xs : Nat → Int32) (p3_41 : Nat)  (K994 : Nat → DS → DA) (X : (Nat × Int32 × Int32) → DS → DA) (s2_506 : Nat) (s4_506 : Int32) (s5_506 : Int32) (s8_506 : Int32) (s10_506 : Nat) (s12_506 : Int32) (s13_506 : Int32) (h : DS) : DA :=
g_L_law_J507_41 N Lc xs p3_41 K994 X s2_506 s4_506 s5_506 s8_506 s10_506 s12_506 s13_506 (0 : Int32) h

def g_L_law_J499_41 (N : Nat) (Lc : Nat) (xs : Nat → Int32) (p3_41 : Nat)  (K994 : Nat → DS → DA) (X : (Nat × Int32 × Int32) → DS → DA) (s2_499 : Nat) (s4_499 : Int32) (s5_499 : Int32) (s8_499 : Int32) (s10_499 : Nat) (s12_499 : Int32) (s13_499 : Int32) (t0_499 : Int32) (t1_499 : Int32) (h : DS) : DA :=
if t1_499 = t0_499 then (g_L_law_J506_41 N Lc xs p3_41 K994 X s2_499 s4_499 s5_499 s8_499 s10_499 s12_499 s13_499 h)
else (g_L_law_J507_41 N Lc xs p3_41 K994 X s2_499 s4_499 s5_499 s8_499 s10_499 s12_499 s13_499 (1 : Int32) h)

def g_L_law_J468_41 (N : Nat) (Lc : Nat) (xs : Nat → Int32) (p3_41 : Nat)  (K994 : Nat → DS → DA) (X : (Nat × Int32 × Int32) → DS → DA) (s2_468 : Nat) (s4_468 : Int32) (s5_468 : Int32) (s8_468 : Int32) (s10_468 : Nat) (s12_468 : Int32) (t0_468 : Int32) (h : DS) : DA :=
bo (dI h s2_468 12 7) fun a_473 =>
if a_473 ≤ s8_468 then (g_L_law_J506_41 N Lc xs p3_41 K994 X s2_468 s4_468 s5_468 s8_468 s10_468 s12_468 t0_468 h)
else (bo (nn (dR h s2_468 12 15)) fun r_480 =>
bo (lQ h 103 r_480 s8_468) fun r_485 =>
bo (lA h 100 r_485 s12_468) fun a_488 =>
if t0_468 = 0 then (g_L_law_J499_41 N Lc xs p3_41 K994 X s2_468 s4_468 s5_468 s8_468 s10_468 s12_468 t0_468 (0 : Int32) a_488 h)
else (g_L_law_J499_41 N Lc xs p3_41 K994 X s2_468 s4_468 s5_468 s8_468 s10_468 s12_468 t0_468 (1 : Int32) a_488 h))

def g_L_law_J450_41 (N : Nat) (Lc : Nat) (xs : Nat → Int32) (p3_41 : Nat)  (K994 : Nat → DS → DA) (X : (Nat × Int32 × Int32) → DS → DA) (s2_450 : Nat) (s4_450 : Int32) (s5_450 : Int32) (s6_450 : Int32) (s8_450 : Int32) (s10_450 : Nat) (t0_450 : Int32) (h : DS) : DA :=
if ((s6_450 >>> ((6 : Int32) &&& 31)) &&& (1 : Int32)) = (1 : Int32) then (g_L_law_J468_41 N Lc xs p3_41 K994 X s2_450 s4_450 s5_450 s8_450 s10_450 t0_450 (1 : Int32) h)
else (g_L_law_J468_41 N Lc xs p3_41 K994 X s2_450 s4_450 s5_450 s8_450 s10_450 t0_450 (0 : Int32) h)

def g_L_law_J413_41 (N : Nat) (Lc : Nat) (xs : Nat → Int32) (p3_41 : Nat)  (K994 : Nat → DS → DA) (X : (Nat × Int32 × Int32) → DS → DA) (s2_413 : Nat) (s4_413 : Int32) (s5_413 : Int32) (s8_413 : Int32) (s10_413 : Nat) (s11_413 : Int32) (s12_413 : Int32) (h : DS) : DA :=
chk (isT h 11 0) <| bdX (f_X11_pay N s8_413 s12_413 h.1) h fun v_418 hh_418 => bnd (gs (f_X12_pay N s8_413 s12_413) hh_418) fun h_418 =>
if v_418 = s11_413 then (g_L_law_J917_41 N Lc xs p3_41 K994 X s2_413 s4_413 s5_413 s10_413 s11_413 h_418)
else (some ((0 : Int32), h_418))

def g_L_law_J359_41 (N : Nat) (Lc : Nat) (xs : Nat → Int32) (p3_41 : Nat)  (K994 : Nat → DS → DA) (X : (Nat × Int32 × Int32) → DS → DA) (s2_359 : Nat) (s4_359 : Int32) (s5_359 : Int32) (s8_359 : Int32) (s10_359 : Nat) (s12_359 : Int32) (t0_359 : Int32) (h : DS) : DA :=
if t0_359 = 0 then (g_L_law_J413_41 N Lc xs p3_41 K994 X s2_359 s4_359 s5_359 s8_359 s10_359 t0_359 s12_359 h)
else (bo (nn (dR h s2_359 12 15)) fun r_367 =>
bo (lQ h 103 r_367 s8_359) fun r_372 =>
bo (nn (dR h s2_359 12 15)) fun r_377 =>
bo (lQ h 103 r_377 s8_359) fun r_382 =>
bo (lA h 100 r_382 (5 : Int32)) fun a_384 =>
bnd (if (a_384 + s12_359) < (99 : Int32) then (a_384 + s12_359) else (99 : Int32)) fun a_388 =>
bo (sA h 100 r_372 (5 : Int32) a_388) fun h_391 =>
bo (dI h_391 s2_359 12 3) fun a_394 =>
bo (wI h_391 s2_359 12 3 (a_394 - s12_359)) fun h_400 =>
chk (isT h_400 12 s2_359) <| bd3 (g_X12_notes N s2_359 (3 : Int32) s8_359 s12_359 (1 : Int32) h_400) fun v_410 h_410 =>
g_L_law_J413_41 N Lc xs p3_41 K994 X s2_359 s4_359 s5_359 s8_359 s10_359 t0_359 s12_359 h_410)

def g_L_law_J358_41 (N : Nat) (Lc : Nat) (xs : Nat → Int32) (p3_41 : Nat)  (K994 : Nat → DS → DA) (X : (Nat × Int32 × Int32) → DS → DA) (s2_358 : Nat) (s4_358 : Int32) (s5_358 : Int32) (s8_358 : Int32) (s10_358 : Nat) (s12_358 : Int32) (h : DS) : DA :=
g_L_law_J359_41 N Lc xs p3_41 K994 X s2_358 s4_358 s5_358 s8_358 s10_358 s12_358 (0 : Int32) h

def g_L_law_J295_41 (N : Nat) (Lc : Nat) (xs : Nat → Int32) (p3_41 : Nat)  (K994 : Nat → DS → DA) (X : (Nat × Int32 × Int32) → DS → DA) (s2_295 : Nat) (s4_295 : Int32) (s5_295 : Int32) (s9_295 : Int32) (s10_295 : Nat) (s11_295 : Int32) (t0_295 : Int32) (h : DS) : DA :=
chk (isT h 11 0) <| bdX (f_X11_perform N s9_295 h.1) h fun v_300 hh_300 => bnd (gs (f_X12_perform N s9_295) hh_300) fun h_300 =>
if v_300 = t0_295 then (g_L_law_J917_41 N Lc xs p3_41 K994 X s2_295 s4_295 s5_295 s10_295 s11_295 h_300)
else (some ((0 : Int32), h_300))

def g_L_law_J277_41 (N : Nat) (Lc : Nat) (xs : Nat → Int32) (p3_41 : Nat)  (K994 : Nat → DS → DA) (X : (Nat × Int32 × Int32) → DS → DA) (s2_277 : Nat) (s4_277 : Int32) (s5_277 : Int32) (s9_277 : Int32) (s10_277 : Nat) (t0_277 : Int32) (h : DS) : DA :=
if t0_277 = 0 then (g_L_law_J295_41 N Lc xs p3_41 K994 X s2_277 s4_277 s5_277 s9_277 s10_277 t0_277 (-1 : Int32) h)
else (chk (isT h 12 s2_277) <| bd3 (g_X12_does N s2_277 s9_277 (1 : Int32) h) fun v_288 h_288 =>
g_L_law_J295_41 N Lc xs p3_41 K994 X s2_277 s4_277 s5_277 s9_277 s10_277 t0_277 v_288 h_288)

def g_L_law_J276_41 (N : Nat) (Lc : Nat) (xs : Nat → Int32) (p3_41 : Nat)  (K994 : Nat → DS → DA) (X : (Nat × Int32 × Int32) → DS → DA) (s2_276 : Nat) (s4_276 : Int32) (s5_276 : Int32) (s9_276 : Int32) (s10_276 : Nat) (h : DS) : DA :=
g_L_law_J277_41 N Lc xs p3_41 K994 X s2_276 s4_276 s5_276 s9_276 s10_276 (0 : Int32) h

def g_L_law_J190_147 (N : Nat) (Lc : Nat) (xs : Nat → Int32) (p2_147 : Nat) (p3_147 : Nat) (p5_147 : Int32) (p10_147 : Nat) (p11_147 : Int32) (p12_147 : Int32)  (K217 : Int32 → Int32 → DS → DA) (X : (Int32 × Int32 × Int32) → DS → DA) (s4_190 : Int32) (s13_190 : Int32) (s14_190 : Int32) (h : DS) : DA :=
chk (isT h 12 p2_147) <| bd3 (g_X12_copy N p2_147 h) fun v_197 h_197 =>
chk (decide (v_197 ≠ -1)) <| bnd v_197.toNatClampNeg fun r_197 =>
bo (sQ h_197 104 p3_147 s4_190 r_197) fun h_200 =>
chk (isT h_200 12 p2_147) <| bd3 (g_X12_passes N p2_147 (1 : Int32) h_200) fun v_205 h_205 =>
X ((s4_190 + 1), (s13_190 + v_205), (s14_190 + 1)) h_205

def g_L_law_L164 (N : Nat) (Lc : Nat) (xs : Nat → Int32) (p2_164 : Nat) (p3_164 : Nat) (p4_164 : Int32) (p5_164 : Int32) (p10_164 : Nat) (p11_164 : Int32) (p12_164 : Int32) (p13_164 : Int32) (p14_164 : Int32) (K187 : DS → DA) (X : Int32 → DS → DA) (s15_164 : Int32) (h : DS) : DA :=
if (6 : Int32) ≤ s15_164 then (K187 h)
else (bo (lQ h 104 p3_164 s15_164) fun r_179 =>
bo (sQ h 104 p3_164 (s15_164 - (1 : Int32)) r_179) fun h_180 =>
X ((s15_164 + 1)) h_180)

def g_L_law_L147 (N : Nat) (Lc : Nat) (xs : Nat → Int32) (p2_147 : Nat) (p3_147 : Nat) (p5_147 : Int32) (p10_147 : Nat) (p11_147 : Int32) (p12_147 : Int32) (K217 : Int32 → Int32 → DS → DA) (X : (Int32 × Int32 × Int32) → DS → DA) (s4_147 : Int32) (s13_147 : Int32) (s14_147 : Int32) (h : DS) : DA :=
if p12_147 ≤ s14_147 then (K217 s4_147 s13_147 h)
else (if s4_147 = (6 : Int32) then (jt (fun Y a hz => g_L_law_L164 N Lc xs p2_147 p3_147 s4_147 p5_147 p10_147 p11_147 p12_147 s13_147 s14_147 (fun hk187 => g_L_law_J190_147 N Lc xs p2_147 p3_147 p5_147 p10_147 p11_147 p12_147 K217 X (s4_147 + (-1)) s13_147 s14_147 hk187) Y a hz) N (1) h)
else (g_L_law_J190_147 N Lc xs p2_147 p3_147 p5_147 p10_147 p11_147 p12_147 K217 X s4_147 s13_147 s14_147 h))

def g_L_law_L41 (N : Nat) (Lc : Nat) (xs : Nat → Int32) (p3_41 : Nat) (K994 : Nat → DS → DA) (X : (Nat × Int32 × Int32) → DS → DA) (s2_41 : Nat) (s4_41 : Int32) (s5_41 : Int32) (h : DS) : DA :=
if (22 : Int32) ≤ s5_41 then (K994 s2_41 h)
else (bd3 (g_L_cell N Lc xs ((6 : Int32) + (irm s5_41 (12 : Int32))) h) fun v_57 h_57 =>
bd3 (g_L_between N ((v_57 * ((s5_41 / (12 : Int32)) + (1 : Int32))) + ((227 : Int32) * s5_41)) (0 : Int32) (13 : Int32) h_57) fun v_82 h_82 =>
bo (dI h_82 s2_41 12 7) fun a_93 =>
bd3 (g_L_between N (((v_57 * ((s5_41 / (12 : Int32)) + (1 : Int32))) + ((227 : Int32) * s5_41)) >>> ((3 : Int32) &&& 31)) (0 : Int32) a_93 h_82) fun v_96 h_96 =>
bo (dI h_96 s2_41 12 8) fun a_107 =>
bd3 (g_L_between N (((v_57 * ((s5_41 / (12 : Int32)) + (1 : Int32))) + ((227 : Int32) * s5_41)) >>> ((5 : Int32) &&& 31)) (0 : Int32) a_107 h_96) fun v_110 h_110 =>
chk (isT h_110 12 s2_41) <| bd3 (g_X12_copy N s2_41 h_110) fun v_116 h_116 =>
chk (decide (v_116 ≠ -1)) <| bnd v_116.toNatClampNeg fun r_116 =>
if (3 : Int32) ≤ v_82 then (if (6 : Int32) ≤ v_82 then (if v_82 = (6 : Int32) then (bd3 (g_L_between N (((v_57 * ((s5_41 / (12 : Int32)) + (1 : Int32))) + ((227 : Int32) * s5_41)) >>> ((6 : Int32) &&& 31)) (0 : Int32) (100 : Int32) h_116) fun v_328 h_328 =>
bo (dI h_328 s2_41 12 7) fun a_336 =>
if a_336 ≤ v_96 then (g_L_law_J358_41 N Lc xs p3_41 K994 X s2_41 s4_41 s5_41 v_96 r_116 v_328 h_328)
else (if v_328 ≤ 0 then (g_L_law_J358_41 N Lc xs p3_41 K994 X s2_41 s4_41 s5_41 v_96 r_116 v_328 h_328)
else (if (100 : Int32) ≤ v_328 then (g_L_law_J358_41 N Lc xs p3_41 K994 X s2_41 s4_41 s5_41 v_96 r_116 v_328 h_328)
else (g_L_law_J359_41 N Lc xs p3_41 K994 X s2_41 s4_41 s5_41 v_96 r_116 v_328 (1 : Int32) h_328))))
else (if (9 : Int32) ≤ v_82 then (if v_82 = (9 : Int32) then (bd3 (g_L_between N (((v_57 * ((s5_41 / (12 : Int32)) + (1 : Int32))) + ((227 : Int32) * s5_41)) >>> ((4 : Int32) &&& 31)) (0 : Int32) (6 : Int32) h_116) fun v_611 h_611 =>
if v_611 = 0 then (g_L_law_J646_41 N Lc xs p3_41 K994 X s2_41 s4_41 s5_41 v_96 v_110 r_116 0 v_611 (1001 : Int32) (0 : Int32) (((v_57 * ((s5_41 / (12 : Int32)) + (1 : Int32))) + ((227 : Int32) * s5_41)) >>> ((6 : Int32) &&& 31)) h_611)
else (if v_611 = (5 : Int32) then (g_L_law_J646_41 N Lc xs p3_41 K994 X s2_41 s4_41 s5_41 v_96 v_110 r_116 0 v_611 (100 : Int32) (0 : Int32) (((v_57 * ((s5_41 / (12 : Int32)) + (1 : Int32))) + ((227 : Int32) * s5_41)) >>> ((6 : Int32) &&& 31)) h_611)
else (g_L_law_J646_41 N Lc xs p3_41 K994 X s2_41 s4_41 s5_41 v_96 v_110 r_116 0 v_611 (10 : Int32) (0 : Int32) (((v_57 * ((s5_41 / (12 : Int32)) + (1 : Int32))) + ((227 : Int32) * s5_41)) >>> ((6 : Int32) &&& 31)) h_611)))
else (if v_82 = (10 : Int32) then (if ((((v_57 * ((s5_41 / (12 : Int32)) + (1 : Int32))) + ((227 : Int32) * s5_41)) >>> ((6 : Int32) &&& 31)) &&& (1 : Int32)) = 0 then (bd3 (g_L_texts N s2_41 ((v_57 * ((s5_41 / (12 : Int32)) + (1 : Int32))) + ((227 : Int32) * s5_41)) h_116) fun v_871 h_871 =>
if v_871 = 0 then (some ((0 : Int32), h_871))
else (g_L_law_J917_41 N Lc xs p3_41 K994 X s2_41 0 s5_41 r_116 0 h_871))
else (g_L_law_J917_41 N Lc xs p3_41 K994 X s2_41 s4_41 s5_41 r_116 0 h_116))
else (chk (isT h_116 11 0) <| bdX (f_X11_undo N h_116.1) h_116 fun v_886 hh_886 => bnd (gs (f_X12_undo N) hh_886) fun h_886 =>
if s4_41 ≤ 0 then (g_L_law_J899_41 N Lc xs p3_41 K994 X s2_41 s4_41 s5_41 r_116 0 (0 : Int32) v_886 h_886)
else (g_L_law_J899_41 N Lc xs p3_41 K994 X s2_41 s4_41 s5_41 r_116 0 (1 : Int32) v_886 h_886))))
else (if v_82 = (7 : Int32) then (g_L_law_J450_41 N Lc xs p3_41 K994 X s2_41 s4_41 s5_41 ((v_57 * ((s5_41 / (12 : Int32)) + (1 : Int32))) + ((227 : Int32) * s5_41)) v_96 r_116 (4 : Int32) h_116)
else (g_L_law_J450_41 N Lc xs p3_41 K994 X s2_41 s4_41 s5_41 ((v_57 * ((s5_41 / (12 : Int32)) + (1 : Int32))) + ((227 : Int32) * s5_41)) v_96 r_116 (3 : Int32) h_116))))
else (bo (dI h_116 s2_41 12 8) fun a_243 =>
if a_243 ≤ v_110 then (g_L_law_J276_41 N Lc xs p3_41 K994 X s2_41 s4_41 s5_41 v_110 r_116 h_116)
else (bo (dI h_116 s2_41 12 1) fun a_250 =>
bo (nn (dR h_116 s2_41 12 16)) fun r_256 =>
bo (lQ h_116 103 r_256 v_110) fun r_261 =>
bo (lA h_116 100 r_261 (1 : Int32)) fun a_263 =>
if (9999 : Int32) ≤ (a_250 + ((21 : Int32) * a_263)) then (g_L_law_J276_41 N Lc xs p3_41 K994 X s2_41 s4_41 s5_41 v_110 r_116 h_116)
else (g_L_law_J277_41 N Lc xs p3_41 K994 X s2_41 s4_41 s5_41 v_110 r_116 (1 : Int32) h_116))))
else (bd3 (g_L_between N (((v_57 * ((s5_41 / (12 : Int32)) + (1 : Int32))) + ((227 : Int32) * s5_41)) >>> ((5 : Int32) &&& 31)) (1 : Int32) (3 : Int32) h_116) fun v_136 h_136 =>
jt (fun Y a hz => g_L_law_L147 N Lc xs s2_41 p3_41 s5_41 r_116 0 v_136 (fun k4_217 k13_217 hk217 => chk (isT hk217 11 0) <| bdX (f_X11_evenings N v_136 hk217.1) hk217 fun v_220 hh_220 => bnd (gs (f_X12_evenings N v_136) hh_220) fun h_220 =>
if v_220 = k13_217 then (g_L_law_J917_41 N Lc xs p3_41 K994 X s2_41 k4_217 s5_41 r_116 0 h_220)
else (some ((0 : Int32), h_220))) Y a.1 a.2.1 a.2.2 hz) N (s4_41, 0, 0) h_136))

def g_L_law (N : Nat) (Lc : Nat) (xs : Nat → Int32) (h : DS) : DA :=
bd3 (g_L_house N Lc xs (0 : Int32) h) fun v_11 h_11 =>
bnd (ov v_11) fun o_11 =>
onn o_11 (some ((0 : Int32), h_11)) fun r_16 =>
(chk (isT h_11 12 r_16) <| bd3 (g_X12_isSame N r_16 h_11) fun v_21 h_21 =>
if v_21 = 0 then (some ((0 : Int32), h_21))
else (bo (nQ h_21 104 (6 : Int32)) fun h_31 =>
jt (fun Y a hz => g_L_law_L41 N Lc xs h_21.2.1.length (fun k2_994 hk994 => chk (isT hk994 11 0) <| bdX (f_X11_evenings N (0 : Int32) hk994.1) hk994 fun v_996 hh_996 => bnd (gs (f_X12_evenings N (0 : Int32)) hh_996) fun h_996 =>
if v_996 = (-1 : Int32) then (chk (isT h_996 11 0) <| bdX (f_X11_evenings N (21 : Int32) h_996.1) h_996 fun v_1006 hh_1006 => bnd (gs (f_X12_evenings N (21 : Int32)) hh_1006) fun h_1006 =>
if v_1006 = (-1 : Int32) then (chk (isT h_1006 11 0) <| bdX (f_X11_hearer N (10 : Int32) (0 : Int32) (0 : Int32) h_1006.1) h_1006 fun v_1018 hh_1018 => bnd (gs (f_X12_hearer N (10 : Int32) (0 : Int32) (0 : Int32)) hh_1018) fun h_1018 =>
if v_1018 = (-1 : Int32) then (chk (isT h_1018 11 0) <| bdX (f_X11_hearer N (0 : Int32) (0 : Int32) (-1 : Int32) h_1018.1) h_1018 fun v_1029 hh_1029 => bnd (gs (f_X12_hearer N (0 : Int32) (0 : Int32) (-1 : Int32)) hh_1029) fun h_1029 =>
if v_1029 = (-1 : Int32) then (chk (isT h_1029 11 0) <| bdX (f_X11_deed N (10 : Int32) (1 : Int32) (0 : Int32) h_1029.1) h_1029 fun v_1041 hh_1041 => bnd (gs (f_X12_deed N (10 : Int32) (1 : Int32) (0 : Int32)) hh_1041) fun h_1041 =>
if v_1041 = (-1 : Int32) then (chk (isT h_1041 11 0) <| bdX (f_X11_deed N (0 : Int32) (0 : Int32) (0 : Int32) h_1041.1) h_1041 fun v_1052 hh_1052 => bnd (gs (f_X12_deed N (0 : Int32) (0 : Int32) (0 : Int32)) hh_1052) fun h_1052 =>
if v_1052 = (-1 : Int32) then (chk (isT h_1052 11 0) <| bdX (f_X11_deed N (0 : Int32) (61 : Int32) (0 : Int32) h_1052.1) h_1052 fun v_1064 hh_1064 => bnd (gs (f_X12_deed N (0 : Int32) (61 : Int32) (0 : Int32)) hh_1064) fun h_1064 =>
if v_1064 = (-1 : Int32) then (chk (isT h_1064 11 0) <| bdX (f_X11_deed N (0 : Int32) (1 : Int32) (100 : Int32) h_1064.1) h_1064 fun v_1076 hh_1076 => bnd (gs (f_X12_deed N (0 : Int32) (1 : Int32) (100 : Int32)) hh_1076) fun h_1076 =>
if v_1076 = (-1 : Int32) then (chk (isT h_1076 11 0) <| bdX (f_X11_set N (6 : Int32) (0 : Int32) (0 : Int32) h_1076.1) h_1076 fun v_1088 hh_1088 => bnd (gs (f_X12_set N (6 : Int32) (0 : Int32) (0 : Int32)) hh_1088) fun h_1088 =>
if v_1088 = 0 then (chk (isT h_1088 11 0) <| bdX (f_X11_perform N (-1 : Int32) h_1088.1) h_1088 fun v_1096 hh_1096 => bnd (gs (f_X12_perform N (-1 : Int32)) hh_1096) fun h_1096 =>
if v_1096 = (-1 : Int32) then (chk (isT h_1096 11 0) <| bdX (f_X11_pay N (-1 : Int32) (1 : Int32) h_1096.1) h_1096 fun v_1106 hh_1106 => bnd (gs (f_X12_pay N (-1 : Int32) (1 : Int32)) hh_1106) fun h_1106 =>
if v_1106 = 0 then (bo (dI h_1106 k2_994 12 7) fun a_1114 =>
chk (isT h_1106 11 0) <| bdX (f_X11_glove N a_1114 (1 : Int32) h_1106.1) h_1106 fun v_1118 hh_1118 => bnd (gs (f_X12_glove N a_1114 (1 : Int32)) hh_1118) fun h_1118 =>
if v_1118 = 0 then (chk (isT h_1118 11 0) <| bdX (f_X11_let N (-1 : Int32) (0 : Int32) h_1118.1) h_1118 fun v_1127 hh_1127 => bnd (gs (f_X12_let N (-1 : Int32) (0 : Int32)) hh_1127) fun h_1127 =>
if v_1127 = 0 then (chk (isT h_1127 11 0) <| bdX (f_X11_book N (0 : Int32) (4 : Int32) h_1127.1) h_1127 fun v_1136 hh_1136 => bnd (gs (f_X12_book N (0 : Int32) (4 : Int32)) hh_1136) fun h_1136 =>
if v_1136 = (-1 : Int32) then (chk (isT h_1136 11 0) <| bdX (f_X11_look N (17 : Int32) h_1136.1) h_1136 fun v_1146 hh_1146 => bnd (gs (f_X12_look N (17 : Int32)) hh_1146) fun h_1146 =>
if v_1146 = (-100000 : Int32) then (chk (isT h_1146 12 k2_994) <| bd3 (g_X12_isSame N k2_994 h_1146) fun v_1156 h_1156 =>
if v_1156 = 0 then (some ((0 : Int32), h_1156))
else (some ((1 : Int32), h_1156)))
else (some ((0 : Int32), h_1146)))
else (some ((0 : Int32), h_1136)))
else (some ((0 : Int32), h_1127)))
else (some ((0 : Int32), h_1118)))
else (some ((0 : Int32), h_1106)))
else (some ((0 : Int32), h_1096)))
else (some ((0 : Int32), h_1088)))
else (some ((0 : Int32), h_1076)))
else (some ((0 : Int32), h_1064)))
else (some ((0 : Int32), h_1052)))
else (some ((0 : Int32), h_1041)))
else (some ((0 : Int32), h_1029)))
else (some ((0 : Int32), h_1018)))
else (some ((0 : Int32), h_1006)))
else (some ((0 : Int32), h_996))) Y a.1 a.2.1 a.2.2 hz) N (r_16, 0, 0) h_31))

set_option maxRecDepth 100000 in
set_option maxHeartbeats 4000000 in
theorem dj_L_law_J967_41 (N d : Nat) (Lc : Nat) (xs : Nat → Int32) (p3_41 : Nat)  (K994 : Nat → DS → DA) (X : (Nat × Int32 × Int32) → DS → DA) (hK994 : ∀ (k2 : Nat) (h : DS), DOk (some (Lc, xs)) (d + 12) m_L_law 994 [none, some (.ref 0), some (.ref k2), none, none, none, none, none, none, none, none, none, none, none, none, none, none] [] h (K994 k2 h)) (hX : ∀ (a : (Nat × Int32 × Int32)) (h : DS), DOk (some (Lc, xs)) (d + 12) m_L_law 41 [some (.ref 1003000), some (.ref 0), some (.ref a.1), some (.ref p3_41), some (.int a.2.1), some (.int a.2.2), none, none, none, none, none, none, none, none, none, none, none] [] h (X a h)) (s2_967 : Nat) (s4_967 : Int32) (s5_967 : Int32) (h : DS) : DOk (some (Lc, xs)) (d + 12) m_L_law 967 [some (.ref 1003000), some (.ref 0), some (.ref s2_967), some (.ref p3_41), some (.int s4_967), some (.int s5_967), none, none, none, none, none, none, none, none, none, none, none] [] h (g_L_law_J967_41 N Lc xs p3_41 K994 X s2_967 s4_967 s5_967 h) := by
  unfold g_L_law_J967_41
  refine dk_aload_n 968 1 dL_law_967 rfl rfl rfl ?_
  refine dk_bipush 970 16 dL_law_968 rfl rfl ?_
  refine dk_callXV (np := 1) (M' := m_X11_look) (As := [.int 16]) (st := []) 973 dL_law_970 rfl rfl km_X11_look ki_X11_look kv_X11_look ml_EncoresLaw_226 (by decide) rfl rfl rfl (fun k hk => by simp at hk) (Nat.le_of_ble_eq_true rfl) (c_X11_look N (d + 9) (16 : Int32) h.1) (fun _ h => by cases h; exact pr_int) (fun v_970 n_970 e_970 => ?_)
  generalize pat h n_970 = hh_970
  refine dk_gs (fun h_970 _ => ?_)
  show DOk _ _ _ _ _ (.int v_970 :: []) _ _
  refine dk_iload 975 4 dL_law_973 rfl rfl ?_
  refine dk_icmp_ne 986 978 dL_law_975 (by decide) rfl (fun _ => ?_) (fun _ => ?_)
  · refine dk_iconst 987 0 dL_law_986 rfl rfl ?_
    exact dk_zretc dL_law_987 rfl rfl
  · refine dk_aload_n 979 2 dL_law_978 rfl rfl rfl ?_
    refine dk_aload_n 980 1 dL_law_979 rfl rfl rfl ?_
    refine dk_callV (np := 1) (M' := m_X12_isSame) (As := [.ref 0]) (st := []) 12 983 dL_law_980 rfl rfl km_X12_isSame ki_X12_isSame kv_X12_isSame ml_EncoresLaw_179 (by decide) (by decide) rfl rfl rfl (Nat.le_of_ble_eq_true rfl) (dc_X12_isSame N (d + 6) s2_967 h_970) (fun v_980 h_980 e_980 => ?_)
    show DOk _ _ _ _ _ (.int v_980 :: []) _ _
    refine dk_if_ne 988 986 dL_law_983 (by decide) rfl (fun _ => ?_) (fun _ => ?_)
    · refine dk_iinc 991 5 1 [some (.ref 1003000), some (.ref 0), some (.ref s2_967), some (.ref p3_41), some (.int s4_967), some (.int (s5_967 + 1)), none, none, none, none, none, none, none, none, none, none, none] dL_law_988 rfl rfl rfl (by decide) rfl ?_
      refine dk_goto 41 dL_law_991 (by decide) ?_
      exact dk_less [some (.ref 1003000), some (.ref 0), some (.ref s2_967), some (.ref p3_41), some (.int s4_967), some (.int (s5_967 + 1)), none, none, none, none, none, none, none, none, none, none, none] (And.intro rfl (And.intro rfl (And.intro rfl (And.intro rfl (And.intro rfl (And.intro rfl (trivial))))))) (hX (s2_967, s4_967, (s5_967 + 1)) h_980)
    · refine dk_iconst 987 0 dL_law_986 rfl rfl ?_
      exact dk_zretc dL_law_987 rfl rfl

set_option maxRecDepth 100000 in
set_option maxHeartbeats 4000000 in
theorem dj_L_law_J958_41 (N d : Nat) (Lc : Nat) (xs : Nat → Int32) (p3_41 : Nat)  (K994 : Nat → DS → DA) (X : (Nat × Int32 × Int32) → DS → DA) (hK994 : ∀ (k2 : Nat) (h : DS), DOk (some (Lc, xs)) (d + 12) m_L_law 994 [none, some (.ref 0), some (.ref k2), none, none, none, none, none, none, none, none, none, none, none, none, none, none] [] h (K994 k2 h)) (hX : ∀ (a : (Nat × Int32 × Int32)) (h : DS), DOk (some (Lc, xs)) (d + 12) m_L_law 41 [some (.ref 1003000), some (.ref 0), some (.ref a.1), some (.ref p3_41), some (.int a.2.1), some (.int a.2.2), none, none, none, none, none, none, none, none, none, none, none] [] h (X a h)) (s2_958 : Nat) (s4_958 : Int32) (s5_958 : Int32) (s10_958 : Nat) (h : DS) : DOk (some (Lc, xs)) (d + 12) m_L_law 958 [some (.ref 1003000), some (.ref 0), some (.ref s2_958), some (.ref p3_41), some (.int s4_958), some (.int s5_958), none, none, none, none, some (.ref s10_958), none, none, none, none, none, none] [] h (g_L_law_J958_41 N Lc xs p3_41 K994 X s2_958 s4_958 s5_958 s10_958 h) := by
  unfold g_L_law_J958_41
  refine dk_aload_n 959 3 dL_law_958 rfl rfl rfl ?_
  refine dk_iload 961 4 dL_law_959 rfl rfl ?_
  refine dk_iinc 964 4 1 [some (.ref 1003000), some (.ref 0), some (.ref s2_958), some (.ref p3_41), some (.int (s4_958 + 1)), some (.int s5_958), none, none, none, none, some (.ref s10_958), none, none, none, none, none, none] dL_law_961 rfl rfl rfl (by decide) rfl ?_
  refine dk_aload 966 10 dL_law_964 rfl rfl ?_
  refine dk_aast 104 967 (Or.inr rfl) dL_law_966 rfl (fun h_966 _ => ?_)
  exact dk_less [some (.ref 1003000), some (.ref 0), some (.ref s2_958), some (.ref p3_41), some (.int (s4_958 + 1)), some (.int s5_958), none, none, none, none, none, none, none, none, none, none, none] (And.intro rfl (And.intro rfl (And.intro rfl (And.intro rfl (And.intro rfl (And.intro rfl (trivial))))))) (dj_L_law_J967_41 N d Lc xs p3_41 K994 X hK994 hX s2_958 (s4_958 + 1) s5_958 h_966)

set_option maxRecDepth 100000 in
set_option maxHeartbeats 4000000 in
theorem db_L_law_L932 (N d : Nat) (Lc : Nat) (xs : Nat → Int32) (p2_932 : Nat) (p3_932 : Nat) (p4_932 : Int32) (p5_932 : Int32) (p10_932 : Nat) (K955 : DS → DA) (hK955 : ∀  (h : DS), DOk (some (Lc, xs)) (d + 12) m_L_law 955 [some (.ref 1003000), some (.ref 0), some (.ref p2_932), some (.ref p3_932), some (.int p4_932), some (.int p5_932), none, none, none, none, some (.ref p10_932), none, none, none, none, none, none] [] h (K955 h)) (X : Int32 → DS → DA) (hX : ∀ (a : Int32) (h : DS), DOk (some (Lc, xs)) (d + 12) m_L_law 932 [some (.ref 1003000), some (.ref 0), some (.ref p2_932), some (.ref p3_932), some (.int p4_932), some (.int p5_932), none, none, none, none, some (.ref p10_932), none, some (.int a), none, none, none, none] [] h (X a h)) (s12_932 : Int32) (h : DS) : DOk (some (Lc, xs)) (d + 12) m_L_law 932 [some (.ref 1003000), some (.ref 0), some (.ref p2_932), some (.ref p3_932), some (.int p4_932), some (.int p5_932), none, none, none, none, some (.ref p10_932), none, some (.int s12_932), none, none, none, none] [] h (g_L_law_L932 N Lc xs p2_932 p3_932 p4_932 p5_932 p10_932 K955 X s12_932 h) := by
  unfold g_L_law_L932
  refine dk_iload 934 12 dL_law_932 rfl rfl ?_
  refine dk_bipush 936 6 dL_law_934 rfl rfl ?_
  refine dk_icmp_ge 955 939 dL_law_936 (by decide) rfl (fun _ => ?_) (fun _ => ?_)
  · exact dk_less [some (.ref 1003000), some (.ref 0), some (.ref p2_932), some (.ref p3_932), some (.int p4_932), some (.int p5_932), none, none, none, none, some (.ref p10_932), none, none, none, none, none, none] (And.intro rfl (And.intro rfl (And.intro rfl (And.intro rfl (And.intro rfl (And.intro rfl (And.intro rfl (trivial)))))))) (hK955 h)
  · refine dk_aload_n 940 3 dL_law_939 rfl rfl rfl ?_
    refine dk_iload 942 12 dL_law_940 rfl rfl ?_
    refine dk_iconst 943 1 dL_law_942 rfl rfl ?_
    refine dk_isub 944 dL_law_943 rfl ?_
    refine dk_aload_n 945 3 dL_law_944 rfl rfl rfl ?_
    refine dk_iload 947 12 dL_law_945 rfl rfl ?_
    refine dk_aald 104 948 (Or.inr rfl) dL_law_947 rfl (fun r_947 _ => ?_)
    refine dk_aast 104 949 (Or.inr rfl) dL_law_948 rfl (fun h_948 _ => ?_)
    refine dk_iinc 952 12 1 [some (.ref 1003000), some (.ref 0), some (.ref p2_932), some (.ref p3_932), some (.int p4_932), some (.int p5_932), none, none, none, none, some (.ref p10_932), none, some (.int (s12_932 + 1)), none, none, none, none] dL_law_949 rfl rfl rfl (by decide) rfl ?_
    refine dk_goto 932 dL_law_952 (by decide) ?_
    exact dk_less [some (.ref 1003000), some (.ref 0), some (.ref p2_932), some (.ref p3_932), some (.int p4_932), some (.int p5_932), none, none, none, none, some (.ref p10_932), none, some (.int (s12_932 + 1)), none, none, none, none] (And.intro rfl (And.intro rfl (And.intro rfl (And.intro rfl (And.intro rfl (And.intro rfl (And.intro rfl (And.intro rfl (trivial))))))))) (hX ((s12_932 + 1)) h_948)

set_option maxRecDepth 100000 in
set_option maxHeartbeats 4000000 in
theorem dl_L_law_L932 (N d : Nat) (Lc : Nat) (xs : Nat → Int32) (p2_932 : Nat) (p3_932 : Nat) (p4_932 : Int32) (p5_932 : Int32) (p10_932 : Nat) (K955 : DS → DA) (hK955 : ∀  (h : DS), DOk (some (Lc, xs)) (d + 12) m_L_law 955 [some (.ref 1003000), some (.ref 0), some (.ref p2_932), some (.ref p3_932), some (.int p4_932), some (.int p5_932), none, none, none, none, some (.ref p10_932), none, none, none, none, none, none] [] h (K955 h)) : ∀ (n : Nat) (a : Int32) (h : DS), DOk (some (Lc, xs)) (d + 12) m_L_law 932 [some (.ref 1003000), some (.ref 0), some (.ref p2_932), some (.ref p3_932), some (.int p4_932), some (.int p5_932), none, none, none, none, some (.ref p10_932), none, some (.int a), none, none, none, none] [] h (jt (fun Y a hz => g_L_law_L932 N Lc xs p2_932 p3_932 p4_932 p5_932 p10_932 K955 Y a hz) n a h) :=
  dk_jt (fun a => [some (.ref 1003000), some (.ref 0), some (.ref p2_932), some (.ref p3_932), some (.int p4_932), some (.int p5_932), none, none, none, none, some (.ref p10_932), none, some (.int a), none, none, none, none]) (fun X hX a h => db_L_law_L932 N d Lc xs p2_932 p3_932 p4_932 p5_932 p10_932 K955 hK955 X hX a h)

set_option maxRecDepth 100000 in
set_option maxHeartbeats 4000000 in
theorem dj_L_law_J917_41 (N d : Nat) (Lc : Nat) (xs : Nat → Int32) (p3_41 : Nat)  (K994 : Nat → DS → DA) (X : (Nat × Int32 × Int32) → DS → DA) (hK994 : ∀ (k2 : Nat) (h : DS), DOk (some (Lc, xs)) (d + 12) m_L_law 994 [none, some (.ref 0), some (.ref k2), none, none, none, none, none, none, none, none, none, none, none, none, none, none] [] h (K994 k2 h)) (hX : ∀ (a : (Nat × Int32 × Int32)) (h : DS), DOk (some (Lc, xs)) (d + 12) m_L_law 41 [some (.ref 1003000), some (.ref 0), some (.ref a.1), some (.ref p3_41), some (.int a.2.1), some (.int a.2.2), none, none, none, none, none, none, none, none, none, none, none] [] h (X a h)) (s2_917 : Nat) (s4_917 : Int32) (s5_917 : Int32) (s10_917 : Nat) (s11_917 : Int32) (h : DS) : DOk (some (Lc, xs)) (d + 12) m_L_law 917 [some (.ref 1003000), some (.ref 0), some (.ref s2_917), some (.ref p3_41), some (.int s4_917), some (.int s5_917), none, none, none, none, some (.ref s10_917), some (.int s11_917), none, none, none, none, none] [] h (g_L_law_J917_41 N Lc xs p3_41 K994 X s2_917 s4_917 s5_917 s10_917 s11_917 h) := by
  unfold g_L_law_J917_41
  refine dk_iload 919 11 dL_law_917 rfl rfl ?_
  refine dk_if_eq 967 922 dL_law_919 (by decide) rfl (fun _ => ?_) (fun _ => ?_)
  · exact dk_less [some (.ref 1003000), some (.ref 0), some (.ref s2_917), some (.ref p3_41), some (.int s4_917), some (.int s5_917), none, none, none, none, none, none, none, none, none, none, none] (And.intro rfl (And.intro rfl (And.intro rfl (And.intro rfl (And.intro rfl (And.intro rfl (trivial))))))) (dj_L_law_J967_41 N d Lc xs p3_41 K994 X hK994 hX s2_917 s4_917 s5_917 h)
  · refine dk_iload 924 4 dL_law_922 rfl rfl ?_
    refine dk_bipush 926 6 dL_law_924 rfl rfl ?_
    refine dk_icmp_ne 958 929 dL_law_926 (by decide) rfl (fun _ => ?_) (fun _ => ?_)
    · exact dk_less [some (.ref 1003000), some (.ref 0), some (.ref s2_917), some (.ref p3_41), some (.int s4_917), some (.int s5_917), none, none, none, none, some (.ref s10_917), none, none, none, none, none, none] (And.intro rfl (And.intro rfl (And.intro rfl (And.intro rfl (And.intro rfl (And.intro rfl (And.intro rfl (trivial)))))))) (dj_L_law_J958_41 N d Lc xs p3_41 K994 X hK994 hX s2_917 s4_917 s5_917 s10_917 h)
    · refine dk_iconst 930 1 dL_law_929 rfl rfl ?_
      refine dk_istore 932 12 [some (.ref 1003000), some (.ref 0), some (.ref s2_917), some (.ref p3_41), some (.int s4_917), some (.int s5_917), none, none, none, none, some (.ref s10_917), some (.int s11_917), some (.int 1), none, none, none, none] dL_law_930 rfl (by decide) rfl ?_
      refine dk_less [some (.ref 1003000), some (.ref 0), some (.ref s2_917), some (.ref p3_41), some (.int s4_917), some (.int s5_917), none, none, none, none, some (.ref s10_917), none, some (.int 1), none, none, none, none] (And.intro rfl (And.intro rfl (And.intro rfl (And.intro rfl (And.intro rfl (And.intro rfl (And.intro rfl (And.intro rfl (trivial))))))))) ?_
      exact dl_L_law_L932 N d Lc xs s2_917 p3_41 s4_917 s5_917 s10_917 (fun hk955 => g_L_law_J958_41 N Lc xs p3_41 K994 X s2_917 (s4_917 + (-1)) s5_917 s10_917 hk955) (fun hk955 => by
          refine dk_iinc 958 4 (-1) [some (.ref 1003000), some (.ref 0), some (.ref s2_917), some (.ref p3_41), some (.int (s4_917 + (-1))), some (.int s5_917), none, none, none, none, some (.ref s10_917), none, none, none, none, none, none] dL_law_955 rfl rfl rfl (by decide) rfl ?_
          exact dk_less [some (.ref 1003000), some (.ref 0), some (.ref s2_917), some (.ref p3_41), some (.int (s4_917 + (-1))), some (.int s5_917), none, none, none, none, some (.ref s10_917), none, none, none, none, none, none] (And.intro rfl (And.intro rfl (And.intro rfl (And.intro rfl (And.intro rfl (And.intro rfl (And.intro rfl (trivial)))))))) (dj_L_law_J958_41 N d Lc xs p3_41 K994 X hK994 hX s2_917 (s4_917 + (-1)) s5_917 s10_917 hk955)) N (1) h

set_option maxRecDepth 100000 in
set_option maxHeartbeats 4000000 in
theorem dj_L_law_J899_41 (N d : Nat) (Lc : Nat) (xs : Nat → Int32) (p3_41 : Nat)  (K994 : Nat → DS → DA) (X : (Nat × Int32 × Int32) → DS → DA) (hK994 : ∀ (k2 : Nat) (h : DS), DOk (some (Lc, xs)) (d + 12) m_L_law 994 [none, some (.ref 0), some (.ref k2), none, none, none, none, none, none, none, none, none, none, none, none, none, none] [] h (K994 k2 h)) (hX : ∀ (a : (Nat × Int32 × Int32)) (h : DS), DOk (some (Lc, xs)) (d + 12) m_L_law 41 [some (.ref 1003000), some (.ref 0), some (.ref a.1), some (.ref p3_41), some (.int a.2.1), some (.int a.2.2), none, none, none, none, none, none, none, none, none, none, none] [] h (X a h)) (s2_899 : Nat) (s4_899 : Int32) (s5_899 : Int32) (s10_899 : Nat) (s11_899 : Int32) (t0_899 : Int32) (t1_899 : Int32) (h : DS) : DOk (some (Lc, xs)) (d + 12) m_L_law 899 [some (.ref 1003000), some (.ref 0), some (.ref s2_899), some (.ref p3_41), some (.int s4_899), some (.int s5_899), none, none, none, none, some (.ref s10_899), some (.int s11_899), none, none, none, none, none] [.int t0_899, .int t1_899] h (g_L_law_J899_41 N Lc xs p3_41 K994 X s2_899 s4_899 s5_899 s10_899 s11_899 t0_899 t1_899 h) := by
  unfold g_L_law_J899_41
  refine dk_icmp_eq 904 902 dL_law_899 (by decide) rfl (fun _ => ?_) (fun _ => ?_)
  · refine dk_iload 906 4 dL_law_904 rfl rfl ?_
    refine dk_if_le 917 909 dL_law_906 (by decide) rfl (fun _ => ?_) (fun _ => ?_)
    · exact dk_less [some (.ref 1003000), some (.ref 0), some (.ref s2_899), some (.ref p3_41), some (.int s4_899), some (.int s5_899), none, none, none, none, some (.ref s10_899), some (.int s11_899), none, none, none, none, none] (And.intro rfl (And.intro rfl (And.intro rfl (And.intro rfl (And.intro rfl (And.intro rfl (And.intro rfl (And.intro rfl (trivial))))))))) (dj_L_law_J917_41 N d Lc xs p3_41 K994 X hK994 hX s2_899 s4_899 s5_899 s10_899 s11_899 h)
    · refine dk_aload_n 910 3 dL_law_909 rfl rfl rfl ?_
      refine dk_iinc 913 4 (-1) [some (.ref 1003000), some (.ref 0), some (.ref s2_899), some (.ref p3_41), some (.int (s4_899 + (-1))), some (.int s5_899), none, none, none, none, some (.ref s10_899), some (.int s11_899), none, none, none, none, none] dL_law_910 rfl rfl rfl (by decide) rfl ?_
      refine dk_iload 915 4 dL_law_913 rfl rfl ?_
      refine dk_aald 104 916 (Or.inr rfl) dL_law_915 rfl (fun r_915 _ => ?_)
      refine dk_astore_n 917 2 [some (.ref 1003000), some (.ref 0), some (.ref r_915), some (.ref p3_41), some (.int (s4_899 + (-1))), some (.int s5_899), none, none, none, none, some (.ref s10_899), some (.int s11_899), none, none, none, none, none] dL_law_916 rfl rfl (by decide) rfl ?_
      exact dk_less [some (.ref 1003000), some (.ref 0), some (.ref r_915), some (.ref p3_41), some (.int (s4_899 + (-1))), some (.int s5_899), none, none, none, none, some (.ref s10_899), some (.int s11_899), none, none, none, none, none] (And.intro rfl (And.intro rfl (And.intro rfl (And.intro rfl (And.intro rfl (And.intro rfl (And.intro rfl (And.intro rfl (trivial))))))))) (dj_L_law_J917_41 N d Lc xs p3_41 K994 X hK994 hX r_915 (s4_899 + (-1)) s5_899 s10_899 s11_899 h)
  · refine dk_iconst 903 0 dL_law_902 rfl rfl ?_
    exact dk_zretc dL_law_903 rfl rfl

set_option maxRecDepth 100000 in
set_option maxHeartbeats 4000000 in
theorem dj_L_law_J847_41 (N d : Nat) (Lc : Nat) (xs : Nat → Int32) (p3_41 : Nat)  (K994 : Nat → DS → DA) (X : (Nat × Int32 × Int32) → DS → DA) (hK994 : ∀ (k2 : Nat) (h : DS), DOk (some (Lc, xs)) (d + 12) m_L_law 994 [none, some (.ref 0), some (.ref k2), none, none, none, none, none, none, none, none, none, none, none, none, none, none] [] h (K994 k2 h)) (hX : ∀ (a : (Nat × Int32 × Int32)) (h : DS), DOk (some (Lc, xs)) (d + 12) m_L_law 41 [some (.ref 1003000), some (.ref 0), some (.ref a.1), some (.ref p3_41), some (.int a.2.1), some (.int a.2.2), none, none, none, none, none, none, none, none, none, none, none] [] h (X a h)) (s2_847 : Nat) (s4_847 : Int32) (s5_847 : Int32) (s10_847 : Nat) (s11_847 : Int32) (h : DS) : DOk (some (Lc, xs)) (d + 12) m_L_law 847 [some (.ref 1003000), some (.ref 0), some (.ref s2_847), some (.ref p3_41), some (.int s4_847), some (.int s5_847), none, none, none, none, some (.ref s10_847), some (.int s11_847), none, none, none, none, none] [] h (g_L_law_J847_41 N Lc xs p3_41 K994 X s2_847 s4_847 s5_847 s10_847 s11_847 h) := by
  unfold g_L_law_J847_41
  refine dk_goto 917 dL_law_847 (by decide) ?_
  exact dk_less [some (.ref 1003000), some (.ref 0), some (.ref s2_847), some (.ref p3_41), some (.int s4_847), some (.int s5_847), none, none, none, none, some (.ref s10_847), some (.int s11_847), none, none, none, none, none] (And.intro rfl (And.intro rfl (And.intro rfl (And.intro rfl (And.intro rfl (And.intro rfl (And.intro rfl (And.intro rfl (trivial))))))))) (dj_L_law_J917_41 N d Lc xs p3_41 K994 X hK994 hX s2_847 s4_847 s5_847 s10_847 s11_847 h)

set_option maxRecDepth 100000 in
set_option maxHeartbeats 4000000 in
theorem dj_L_law_J844_41 (N d : Nat) (Lc : Nat) (xs : Nat → Int32) (p3_41 : Nat)  (K994 : Nat → DS → DA) (X : (Nat × Int32 × Int32) → DS → DA) (hK994 : ∀ (k2 : Nat) (h : DS), DOk (some (Lc, xs)) (d + 12) m_L_law 994 [none, some (.ref 0), some (.ref k2), none, none, none, none, none, none, none, none, none, none, none, none, none, none] [] h (K994 k2 h)) (hX : ∀ (a : (Nat × Int32 × Int32)) (h : DS), DOk (some (Lc, xs)) (d + 12) m_L_law 41 [some (.ref 1003000), some (.ref 0), some (.ref a.1), some (.ref p3_41), some (.int a.2.1), some (.int a.2.2), none, none, none, none, none, none, none, none, none, none, none] [] h (X a h)) (s2_844 : Nat) (s5_844 : Int32) (s10_844 : Nat) (s11_844 : Int32) (h : DS) : DOk (some (Lc, xs)) (d + 12) m_L_law 844 [some (.ref 1003000), some (.ref 0), some (.ref s2_844), some (.ref p3_41), none, some (.int s5_844), none, none, none, none, some (.ref s10_844), some (.int s11_844), none, none, none, none, none] [] h (g_L_law_J844_41 N Lc xs p3_41 K994 X s2_844 s5_844 s10_844 s11_844 h) := by
  unfold g_L_law_J844_41
  refine dk_iconst 845 0 dL_law_844 rfl rfl ?_
  refine dk_istore 847 4 [some (.ref 1003000), some (.ref 0), some (.ref s2_844), some (.ref p3_41), some (.int 0), some (.int s5_844), none, none, none, none, some (.ref s10_844), some (.int s11_844), none, none, none, none, none] dL_law_845 rfl (by decide) rfl ?_
  exact dk_less [some (.ref 1003000), some (.ref 0), some (.ref s2_844), some (.ref p3_41), some (.int 0), some (.int s5_844), none, none, none, none, some (.ref s10_844), some (.int s11_844), none, none, none, none, none] (And.intro rfl (And.intro rfl (And.intro rfl (And.intro rfl (And.intro rfl (And.intro rfl (And.intro rfl (And.intro rfl (trivial))))))))) (dj_L_law_J847_41 N d Lc xs p3_41 K994 X hK994 hX s2_844 0 s5_844 s10_844 s11_844 h)

set_option maxRecDepth 100000 in
set_option maxHeartbeats 4000000 in
theorem dj_L_law_J827_41 (N d : Nat) (Lc : Nat) (xs : Nat → Int32) (p3_41 : Nat)  (K994 : Nat → DS → DA) (X : (Nat × Int32 × Int32) → DS → DA) (hK994 : ∀ (k2 : Nat) (h : DS), DOk (some (Lc, xs)) (d + 12) m_L_law 994 [none, some (.ref 0), some (.ref k2), none, none, none, none, none, none, none, none, none, none, none, none, none, none] [] h (K994 k2 h)) (hX : ∀ (a : (Nat × Int32 × Int32)) (h : DS), DOk (some (Lc, xs)) (d + 12) m_L_law 41 [some (.ref 1003000), some (.ref 0), some (.ref a.1), some (.ref p3_41), some (.int a.2.1), some (.int a.2.2), none, none, none, none, none, none, none, none, none, none, none] [] h (X a h)) (s2_827 : Nat) (s5_827 : Int32) (s9_827 : Int32) (s10_827 : Nat) (s11_827 : Int32) (s12_827 : Int32) (s13_827 : Int32) (h : DS) : DOk (some (Lc, xs)) (d + 12) m_L_law 827 [some (.ref 1003000), some (.ref 0), some (.ref s2_827), some (.ref p3_41), none, some (.int s5_827), none, none, none, some (.int s9_827), some (.ref s10_827), some (.int s11_827), some (.int s12_827), some (.int s13_827), none, none, none] [] h (g_L_law_J827_41 N Lc xs p3_41 K994 X s2_827 s5_827 s9_827 s10_827 s11_827 s12_827 s13_827 h) := by
  unfold g_L_law_J827_41
  refine dk_iload 829 12 dL_law_827 rfl rfl ?_
  refine dk_iconst 830 5 dL_law_829 rfl rfl ?_
  refine dk_icmp_ne 844 833 dL_law_830 (by decide) rfl (fun _ => ?_) (fun _ => ?_)
  · exact dk_less [some (.ref 1003000), some (.ref 0), some (.ref s2_827), some (.ref p3_41), none, some (.int s5_827), none, none, none, none, some (.ref s10_827), some (.int s11_827), none, none, none, none, none] (And.intro rfl (And.intro rfl (And.intro rfl (And.intro rfl (And.intro rfl (And.intro rfl (And.intro rfl (trivial)))))))) (dj_L_law_J844_41 N d Lc xs p3_41 K994 X hK994 hX s2_827 s5_827 s10_827 s11_827 h)
  · refine dk_aload_n 834 2 dL_law_833 rfl rfl rfl ?_
    refine dk_getRN 837 dL_law_834 rfl rfl FN_EncoresLaw_153 (fun r_834 _ => ?_)
    refine dk_iload 839 9 dL_law_837 rfl rfl ?_
    refine dk_aald 103 840 (Or.inl rfl) dL_law_839 rfl (fun r_839 _ => ?_)
    refine dk_iconst 841 3 dL_law_840 rfl rfl ?_
    refine dk_iload 843 13 dL_law_841 rfl rfl ?_
    refine dk_iast 844 dL_law_843 rfl (fun h_843 _ => ?_)
    exact dk_less [some (.ref 1003000), some (.ref 0), some (.ref s2_827), some (.ref p3_41), none, some (.int s5_827), none, none, none, none, some (.ref s10_827), some (.int s11_827), none, none, none, none, none] (And.intro rfl (And.intro rfl (And.intro rfl (And.intro rfl (And.intro rfl (And.intro rfl (And.intro rfl (trivial)))))))) (dj_L_law_J844_41 N d Lc xs p3_41 K994 X hK994 hX s2_827 s5_827 s10_827 s11_827 h_843)

set_option maxRecDepth 100000 in
set_option maxHeartbeats 4000000 in
theorem dj_L_law_J810_41 (N d : Nat) (Lc : Nat) (xs : Nat → Int32) (p3_41 : Nat)  (K994 : Nat → DS → DA) (X : (Nat × Int32 × Int32) → DS → DA) (hK994 : ∀ (k2 : Nat) (h : DS), DOk (some (Lc, xs)) (d + 12) m_L_law 994 [none, some (.ref 0), some (.ref k2), none, none, none, none, none, none, none, none, none, none, none, none, none, none] [] h (K994 k2 h)) (hX : ∀ (a : (Nat × Int32 × Int32)) (h : DS), DOk (some (Lc, xs)) (d + 12) m_L_law 41 [some (.ref 1003000), some (.ref 0), some (.ref a.1), some (.ref p3_41), some (.int a.2.1), some (.int a.2.2), none, none, none, none, none, none, none, none, none, none, none] [] h (X a h)) (s2_810 : Nat) (s5_810 : Int32) (s9_810 : Int32) (s10_810 : Nat) (s11_810 : Int32) (s12_810 : Int32) (s13_810 : Int32) (h : DS) : DOk (some (Lc, xs)) (d + 12) m_L_law 810 [some (.ref 1003000), some (.ref 0), some (.ref s2_810), some (.ref p3_41), none, some (.int s5_810), none, none, none, some (.int s9_810), some (.ref s10_810), some (.int s11_810), some (.int s12_810), some (.int s13_810), none, none, none] [] h (g_L_law_J810_41 N Lc xs p3_41 K994 X s2_810 s5_810 s9_810 s10_810 s11_810 s12_810 s13_810 h) := by
  unfold g_L_law_J810_41
  refine dk_iload 812 12 dL_law_810 rfl rfl ?_
  refine dk_iconst 813 4 dL_law_812 rfl rfl ?_
  refine dk_icmp_ne 827 816 dL_law_813 (by decide) rfl (fun _ => ?_) (fun _ => ?_)
  · exact dk_less [some (.ref 1003000), some (.ref 0), some (.ref s2_810), some (.ref p3_41), none, some (.int s5_810), none, none, none, some (.int s9_810), some (.ref s10_810), some (.int s11_810), some (.int s12_810), some (.int s13_810), none, none, none] (And.intro rfl (And.intro rfl (And.intro rfl (And.intro rfl (And.intro rfl (And.intro rfl (And.intro rfl (And.intro rfl (And.intro rfl (And.intro rfl (trivial))))))))))) (dj_L_law_J827_41 N d Lc xs p3_41 K994 X hK994 hX s2_810 s5_810 s9_810 s10_810 s11_810 s12_810 s13_810 h)
  · refine dk_aload_n 817 2 dL_law_816 rfl rfl rfl ?_
    refine dk_getRN 820 dL_law_817 rfl rfl FN_EncoresLaw_153 (fun r_817 _ => ?_)
    refine dk_iload 822 9 dL_law_820 rfl rfl ?_
    refine dk_aald 103 823 (Or.inl rfl) dL_law_822 rfl (fun r_822 _ => ?_)
    refine dk_iconst 824 0 dL_law_823 rfl rfl ?_
    refine dk_iload 826 13 dL_law_824 rfl rfl ?_
    refine dk_iast 827 dL_law_826 rfl (fun h_826 _ => ?_)
    exact dk_less [some (.ref 1003000), some (.ref 0), some (.ref s2_810), some (.ref p3_41), none, some (.int s5_810), none, none, none, some (.int s9_810), some (.ref s10_810), some (.int s11_810), some (.int s12_810), some (.int s13_810), none, none, none] (And.intro rfl (And.intro rfl (And.intro rfl (And.intro rfl (And.intro rfl (And.intro rfl (And.intro rfl (And.intro rfl (And.intro rfl (And.intro rfl (trivial))))))))))) (dj_L_law_J827_41 N d Lc xs p3_41 K994 X hK994 hX s2_810 s5_810 s9_810 s10_810 s11_810 s12_810 s13_810 h_826)

set_option maxRecDepth 100000 in
set_option maxHeartbeats 4000000 in
theorem dj_L_law_J785_41 (N d : Nat) (Lc : Nat) (xs : Nat → Int32) (p3_41 : Nat)  (K994 : Nat → DS → DA) (X : (Nat × Int32 × Int32) → DS → DA) (hK994 : ∀ (k2 : Nat) (h : DS), DOk (some (Lc, xs)) (d + 12) m_L_law 994 [none, some (.ref 0), some (.ref k2), none, none, none, none, none, none, none, none, none, none, none, none, none, none] [] h (K994 k2 h)) (hX : ∀ (a : (Nat × Int32 × Int32)) (h : DS), DOk (some (Lc, xs)) (d + 12) m_L_law 41 [some (.ref 1003000), some (.ref 0), some (.ref a.1), some (.ref p3_41), some (.int a.2.1), some (.int a.2.2), none, none, none, none, none, none, none, none, none, none, none] [] h (X a h)) (s2_785 : Nat) (s5_785 : Int32) (s8_785 : Int32) (s9_785 : Int32) (s10_785 : Nat) (s11_785 : Int32) (s12_785 : Int32) (s13_785 : Int32) (h : DS) : DOk (some (Lc, xs)) (d + 12) m_L_law 785 [some (.ref 1003000), some (.ref 0), some (.ref s2_785), some (.ref p3_41), none, some (.int s5_785), none, none, some (.int s8_785), some (.int s9_785), some (.ref s10_785), some (.int s11_785), some (.int s12_785), some (.int s13_785), none, none, none] [] h (g_L_law_J785_41 N Lc xs p3_41 K994 X s2_785 s5_785 s8_785 s9_785 s10_785 s11_785 s12_785 s13_785 h) := by
  unfold g_L_law_J785_41
  refine dk_iload 787 12 dL_law_785 rfl rfl ?_
  refine dk_if_le 810 790 dL_law_787 (by decide) rfl (fun _ => ?_) (fun _ => ?_)
  · exact dk_less [some (.ref 1003000), some (.ref 0), some (.ref s2_785), some (.ref p3_41), none, some (.int s5_785), none, none, none, some (.int s9_785), some (.ref s10_785), some (.int s11_785), some (.int s12_785), some (.int s13_785), none, none, none] (And.intro rfl (And.intro rfl (And.intro rfl (And.intro rfl (And.intro rfl (And.intro rfl (And.intro rfl (And.intro rfl (And.intro rfl (And.intro rfl (trivial))))))))))) (dj_L_law_J810_41 N d Lc xs p3_41 K994 X hK994 hX s2_785 s5_785 s9_785 s10_785 s11_785 s12_785 s13_785 h)
  · refine dk_iload 792 12 dL_law_790 rfl rfl ?_
    refine dk_iconst 793 4 dL_law_792 rfl rfl ?_
    refine dk_icmp_ge 810 796 dL_law_793 (by decide) rfl (fun _ => ?_) (fun _ => ?_)
    · exact dk_less [some (.ref 1003000), some (.ref 0), some (.ref s2_785), some (.ref p3_41), none, some (.int s5_785), none, none, none, some (.int s9_785), some (.ref s10_785), some (.int s11_785), some (.int s12_785), some (.int s13_785), none, none, none] (And.intro rfl (And.intro rfl (And.intro rfl (And.intro rfl (And.intro rfl (And.intro rfl (And.intro rfl (And.intro rfl (And.intro rfl (And.intro rfl (trivial))))))))))) (dj_L_law_J810_41 N d Lc xs p3_41 K994 X hK994 hX s2_785 s5_785 s9_785 s10_785 s11_785 s12_785 s13_785 h)
    · refine dk_aload_n 797 2 dL_law_796 rfl rfl rfl ?_
      refine dk_getRN 800 dL_law_797 rfl rfl FN_EncoresLaw_147 (fun r_797 _ => ?_)
      refine dk_iload 802 8 dL_law_800 rfl rfl ?_
      refine dk_aald 103 803 (Or.inl rfl) dL_law_802 rfl (fun r_802 _ => ?_)
      refine dk_iload 805 12 dL_law_803 rfl rfl ?_
      refine dk_iconst 806 1 dL_law_805 rfl rfl ?_
      refine dk_isub 807 dL_law_806 rfl ?_
      refine dk_iload 809 13 dL_law_807 rfl rfl ?_
      refine dk_iast 810 dL_law_809 rfl (fun h_809 _ => ?_)
      exact dk_less [some (.ref 1003000), some (.ref 0), some (.ref s2_785), some (.ref p3_41), none, some (.int s5_785), none, none, none, some (.int s9_785), some (.ref s10_785), some (.int s11_785), some (.int s12_785), some (.int s13_785), none, none, none] (And.intro rfl (And.intro rfl (And.intro rfl (And.intro rfl (And.intro rfl (And.intro rfl (And.intro rfl (And.intro rfl (And.intro rfl (And.intro rfl (trivial))))))))))) (dj_L_law_J810_41 N d Lc xs p3_41 K994 X hK994 hX s2_785 s5_785 s9_785 s10_785 s11_785 s12_785 s13_785 h_809)

set_option maxRecDepth 100000 in
set_option maxHeartbeats 4000000 in
theorem dj_L_law_J750_41 (N d : Nat) (Lc : Nat) (xs : Nat → Int32) (p3_41 : Nat)  (K994 : Nat → DS → DA) (X : (Nat × Int32 × Int32) → DS → DA) (hK994 : ∀ (k2 : Nat) (h : DS), DOk (some (Lc, xs)) (d + 12) m_L_law 994 [none, some (.ref 0), some (.ref k2), none, none, none, none, none, none, none, none, none, none, none, none, none, none] [] h (K994 k2 h)) (hX : ∀ (a : (Nat × Int32 × Int32)) (h : DS), DOk (some (Lc, xs)) (d + 12) m_L_law 41 [some (.ref 1003000), some (.ref 0), some (.ref a.1), some (.ref p3_41), some (.int a.2.1), some (.int a.2.2), none, none, none, none, none, none, none, none, none, none, none] [] h (X a h)) (s2_750 : Nat) (s4_750 : Int32) (s5_750 : Int32) (s8_750 : Int32) (s9_750 : Int32) (s10_750 : Nat) (s11_750 : Int32) (s12_750 : Int32) (s13_750 : Int32) (s15_750 : Int32) (t0_750 : Int32) (h : DS) : DOk (some (Lc, xs)) (d + 12) m_L_law 750 [some (.ref 1003000), some (.ref 0), some (.ref s2_750), some (.ref p3_41), some (.int s4_750), some (.int s5_750), none, none, some (.int s8_750), some (.int s9_750), some (.ref s10_750), some (.int s11_750), some (.int s12_750), some (.int s13_750), none, some (.int s15_750), none] [.int t0_750] h (g_L_law_J750_41 N Lc xs p3_41 K994 X s2_750 s4_750 s5_750 s8_750 s9_750 s10_750 s11_750 s12_750 s13_750 s15_750 t0_750 h) := by
  unfold g_L_law_J750_41
  refine dk_istore 752 16 [some (.ref 1003000), some (.ref 0), some (.ref s2_750), some (.ref p3_41), some (.int s4_750), some (.int s5_750), none, none, some (.int s8_750), some (.int s9_750), some (.ref s10_750), some (.int s11_750), some (.int s12_750), some (.int s13_750), none, some (.int s15_750), some (.int t0_750)] dL_law_750 rfl (by decide) rfl ?_
  refine dk_aload_n 753 1 dL_law_752 rfl rfl rfl ?_
  refine dk_iload 755 12 dL_law_753 rfl rfl ?_
  refine dk_iload 757 15 dL_law_755 rfl rfl ?_
  refine dk_iload 759 13 dL_law_757 rfl rfl ?_
  refine dk_callXV (np := 3) (M' := m_X11_set) (As := [.int s12_750, .int s15_750, .int s13_750]) (st := []) 762 dL_law_759 rfl rfl km_X11_set ki_X11_set kv_X11_set ml_EncoresLaw_161 (by decide) rfl rfl rfl (fun k hk => by simp at hk) (Nat.le_of_ble_eq_true rfl) (c_X11_set N (d + 9) s12_750 s15_750 s13_750 h.1) (fun _ h => by cases h; exact pr_bool) (fun v_759 n_759 e_759 => ?_)
  generalize pat h n_759 = hh_759
  refine dk_gs (fun h_759 _ => ?_)
  show DOk _ _ _ _ _ (.int v_759 :: []) _ _
  refine dk_iload 764 16 dL_law_762 rfl rfl ?_
  refine dk_icmp_eq 769 767 dL_law_764 (by decide) rfl (fun _ => ?_) (fun _ => ?_)
  · refine dk_iload 771 16 dL_law_769 rfl rfl ?_
    refine dk_if_eq 847 774 dL_law_771 (by decide) rfl (fun _ => ?_) (fun _ => ?_)
    · exact dk_less [some (.ref 1003000), some (.ref 0), some (.ref s2_750), some (.ref p3_41), some (.int s4_750), some (.int s5_750), none, none, none, none, some (.ref s10_750), some (.int s11_750), none, none, none, none, none] (And.intro rfl (And.intro rfl (And.intro rfl (And.intro rfl (And.intro rfl (And.intro rfl (And.intro rfl (And.intro rfl (trivial))))))))) (dj_L_law_J847_41 N d Lc xs p3_41 K994 X hK994 hX s2_750 s4_750 s5_750 s10_750 s11_750 h_759)
    · refine dk_iload 776 12 dL_law_774 rfl rfl ?_
      refine dk_if_ne 785 779 dL_law_776 (by decide) rfl (fun _ => ?_) (fun _ => ?_)
      · exact dk_less [some (.ref 1003000), some (.ref 0), some (.ref s2_750), some (.ref p3_41), none, some (.int s5_750), none, none, some (.int s8_750), some (.int s9_750), some (.ref s10_750), some (.int s11_750), some (.int s12_750), some (.int s13_750), none, none, none] (And.intro rfl (And.intro rfl (And.intro rfl (And.intro rfl (And.intro rfl (And.intro rfl (And.intro rfl (And.intro rfl (And.intro rfl (And.intro rfl (And.intro rfl (trivial)))))))))))) (dj_L_law_J785_41 N d Lc xs p3_41 K994 X hK994 hX s2_750 s5_750 s8_750 s9_750 s10_750 s11_750 s12_750 s13_750 h_759)
      · refine dk_aload_n 780 2 dL_law_779 rfl rfl rfl ?_
        refine dk_iload 782 13 dL_law_780 rfl rfl ?_
        refine dk_putIN 785 dL_law_782 rfl rfl FN_EncoresLaw_158 rfl pZ_12_6 rfl rfl (fun h_782 _ => ?_)
        exact dk_less [some (.ref 1003000), some (.ref 0), some (.ref s2_750), some (.ref p3_41), none, some (.int s5_750), none, none, some (.int s8_750), some (.int s9_750), some (.ref s10_750), some (.int s11_750), some (.int s12_750), some (.int s13_750), none, none, none] (And.intro rfl (And.intro rfl (And.intro rfl (And.intro rfl (And.intro rfl (And.intro rfl (And.intro rfl (And.intro rfl (And.intro rfl (And.intro rfl (And.intro rfl (trivial)))))))))))) (dj_L_law_J785_41 N d Lc xs p3_41 K994 X hK994 hX s2_750 s5_750 s8_750 s9_750 s10_750 s11_750 s12_750 s13_750 h_782)
  · refine dk_iconst 768 0 dL_law_767 rfl rfl ?_
    exact dk_zretc dL_law_768 rfl rfl

set_option maxRecDepth 100000 in
set_option maxHeartbeats 4000000 in
theorem dj_L_law_J749_41 (N d : Nat) (Lc : Nat) (xs : Nat → Int32) (p3_41 : Nat)  (K994 : Nat → DS → DA) (X : (Nat × Int32 × Int32) → DS → DA) (hK994 : ∀ (k2 : Nat) (h : DS), DOk (some (Lc, xs)) (d + 12) m_L_law 994 [none, some (.ref 0), some (.ref k2), none, none, none, none, none, none, none, none, none, none, none, none, none, none] [] h (K994 k2 h)) (hX : ∀ (a : (Nat × Int32 × Int32)) (h : DS), DOk (some (Lc, xs)) (d + 12) m_L_law 41 [some (.ref 1003000), some (.ref 0), some (.ref a.1), some (.ref p3_41), some (.int a.2.1), some (.int a.2.2), none, none, none, none, none, none, none, none, none, none, none] [] h (X a h)) (s2_749 : Nat) (s4_749 : Int32) (s5_749 : Int32) (s8_749 : Int32) (s9_749 : Int32) (s10_749 : Nat) (s11_749 : Int32) (s12_749 : Int32) (s13_749 : Int32) (s15_749 : Int32) (h : DS) : DOk (some (Lc, xs)) (d + 12) m_L_law 749 [some (.ref 1003000), some (.ref 0), some (.ref s2_749), some (.ref p3_41), some (.int s4_749), some (.int s5_749), none, none, some (.int s8_749), some (.int s9_749), some (.ref s10_749), some (.int s11_749), some (.int s12_749), some (.int s13_749), none, some (.int s15_749), none] [] h (g_L_law_J749_41 N Lc xs p3_41 K994 X s2_749 s4_749 s5_749 s8_749 s9_749 s10_749 s11_749 s12_749 s13_749 s15_749 h) := by
  unfold g_L_law_J749_41
  refine dk_iconst 750 0 dL_law_749 rfl rfl ?_
  exact dk_less [some (.ref 1003000), some (.ref 0), some (.ref s2_749), some (.ref p3_41), some (.int s4_749), some (.int s5_749), none, none, some (.int s8_749), some (.int s9_749), some (.ref s10_749), some (.int s11_749), some (.int s12_749), some (.int s13_749), none, some (.int s15_749), none] (And.intro rfl (And.intro rfl (And.intro rfl (And.intro rfl (And.intro rfl (And.intro rfl (And.intro rfl (And.intro rfl (And.intro rfl (And.intro rfl (And.intro rfl (And.intro rfl (And.intro rfl (trivial)))))))))))))) (dj_L_law_J750_41 N d Lc xs p3_41 K994 X hK994 hX s2_749 s4_749 s5_749 s8_749 s9_749 s10_749 s11_749 s12_749 s13_749 s15_749 (0 : Int32) h)

set_option maxRecDepth 100000 in
set_option maxHeartbeats 4000000 in
theorem dj_L_law_J745_41 (N d : Nat) (Lc : Nat) (xs : Nat → Int32) (p3_41 : Nat)  (K994 : Nat → DS → DA) (X : (Nat × Int32 × Int32) → DS → DA) (hK994 : ∀ (k2 : Nat) (h : DS), DOk (some (Lc, xs)) (d + 12) m_L_law 994 [none, some (.ref 0), some (.ref k2), none, none, none, none, none, none, none, none, none, none, none, none, none, none] [] h (K994 k2 h)) (hX : ∀ (a : (Nat × Int32 × Int32)) (h : DS), DOk (some (Lc, xs)) (d + 12) m_L_law 41 [some (.ref 1003000), some (.ref 0), some (.ref a.1), some (.ref p3_41), some (.int a.2.1), some (.int a.2.2), none, none, none, none, none, none, none, none, none, none, none] [] h (X a h)) (s2_745 : Nat) (s4_745 : Int32) (s5_745 : Int32) (s8_745 : Int32) (s9_745 : Int32) (s10_745 : Nat) (s11_745 : Int32) (s12_745 : Int32) (s13_745 : Int32) (s15_745 : Int32) (h : DS) : DOk (some (Lc, xs)) (d + 12) m_L_law 745 [some (.ref 1003000), some (.ref 0), some (.ref s2_745), some (.ref p3_41), some (.int s4_745), some (.int s5_745), none, none, some (.int s8_745), some (.int s9_745), some (.ref s10_745), some (.int s11_745), some (.int s12_745), some (.int s13_745), none, some (.int s15_745), none] [] h (g_L_law_J745_41 N Lc xs p3_41 K994 X s2_745 s4_745 s5_745 s8_745 s9_745 s10_745 s11_745 s12_745 s13_745 s15_745 h) := by
  unfold g_L_law_J745_41
  refine dk_iconst 746 1 dL_law_745 rfl rfl ?_
  refine dk_goto 750 dL_law_746 (by decide) ?_
  exact dk_less [some (.ref 1003000), some (.ref 0), some (.ref s2_745), some (.ref p3_41), some (.int s4_745), some (.int s5_745), none, none, some (.int s8_745), some (.int s9_745), some (.ref s10_745), some (.int s11_745), some (.int s12_745), some (.int s13_745), none, some (.int s15_745), none] (And.intro rfl (And.intro rfl (And.intro rfl (And.intro rfl (And.intro rfl (And.intro rfl (And.intro rfl (And.intro rfl (And.intro rfl (And.intro rfl (And.intro rfl (And.intro rfl (And.intro rfl (trivial)))))))))))))) (dj_L_law_J750_41 N d Lc xs p3_41 K994 X hK994 hX s2_745 s4_745 s5_745 s8_745 s9_745 s10_745 s11_745 s12_745 s13_745 s15_745 (1 : Int32) h)

set_option maxRecDepth 100000 in
set_option maxHeartbeats 4000000 in
theorem dj_L_law_J742_41 (N d : Nat) (Lc : Nat) (xs : Nat → Int32) (p3_41 : Nat)  (K994 : Nat → DS → DA) (X : (Nat × Int32 × Int32) → DS → DA) (hK994 : ∀ (k2 : Nat) (h : DS), DOk (some (Lc, xs)) (d + 12) m_L_law 994 [none, some (.ref 0), some (.ref k2), none, none, none, none, none, none, none, none, none, none, none, none, none, none] [] h (K994 k2 h)) (hX : ∀ (a : (Nat × Int32 × Int32)) (h : DS), DOk (some (Lc, xs)) (d + 12) m_L_law 41 [some (.ref 1003000), some (.ref 0), some (.ref a.1), some (.ref p3_41), some (.int a.2.1), some (.int a.2.2), none, none, none, none, none, none, none, none, none, none, none] [] h (X a h)) (s2_742 : Nat) (s4_742 : Int32) (s5_742 : Int32) (s8_742 : Int32) (s9_742 : Int32) (s10_742 : Nat) (s11_742 : Int32) (s12_742 : Int32) (s13_742 : Int32) (s15_742 : Int32) (t0_742 : Int32) (t1_742 : Int32) (h : DS) : DOk (some (Lc, xs)) (d + 12) m_L_law 742 [some (.ref 1003000), some (.ref 0), some (.ref s2_742), some (.ref p3_41), some (.int s4_742), some (.int s5_742), none, none, some (.int s8_742), some (.int s9_742), some (.ref s10_742), some (.int s11_742), some (.int s12_742), some (.int s13_742), none, some (.int s15_742), none] [.int t0_742, .int t1_742] h (g_L_law_J742_41 N Lc xs p3_41 K994 X s2_742 s4_742 s5_742 s8_742 s9_742 s10_742 s11_742 s12_742 s13_742 s15_742 t0_742 t1_742 h) := by
  unfold g_L_law_J742_41
  refine dk_icmp_ge 749 745 dL_law_742 (by decide) rfl (fun _ => ?_) (fun _ => ?_)
  · exact dk_less [some (.ref 1003000), some (.ref 0), some (.ref s2_742), some (.ref p3_41), some (.int s4_742), some (.int s5_742), none, none, some (.int s8_742), some (.int s9_742), some (.ref s10_742), some (.int s11_742), some (.int s12_742), some (.int s13_742), none, some (.int s15_742), none] (And.intro rfl (And.intro rfl (And.intro rfl (And.intro rfl (And.intro rfl (And.intro rfl (And.intro rfl (And.intro rfl (And.intro rfl (And.intro rfl (And.intro rfl (And.intro rfl (And.intro rfl (trivial)))))))))))))) (dj_L_law_J749_41 N d Lc xs p3_41 K994 X hK994 hX s2_742 s4_742 s5_742 s8_742 s9_742 s10_742 s11_742 s12_742 s13_742 s15_742 h)
  · exact dk_less [some (.ref 1003000), some (.ref 0), some (.ref s2_742), some (.ref p3_41), some (.int s4_742), some (.int s5_742), none, none, some (.int s8_742), some (.int s9_742), some (.ref s10_742), some (.int s11_742), some (.int s12_742), some (.int s13_742), none, some (.int s15_742), none] (And.intro rfl (And.intro rfl (And.intro rfl (And.intro rfl (And.intro rfl (And.intro rfl (And.intro rfl (And.intro rfl (And.intro rfl (And.intro rfl (And.intro rfl (And.intro rfl (And.intro rfl (trivial)))))))))))))) (dj_L_law_J745_41 N d Lc xs p3_41 K994 X hK994 hX s2_742 s4_742 s5_742 s8_742 s9_742 s10_742 s11_742 s12_742 s13_742 s15_742 h)

set_option maxRecDepth 100000 in
set_option maxHeartbeats 4000000 in
theorem dj_L_law_J706_41 (N d : Nat) (Lc : Nat) (xs : Nat → Int32) (p3_41 : Nat)  (K994 : Nat → DS → DA) (X : (Nat × Int32 × Int32) → DS → DA) (hK994 : ∀ (k2 : Nat) (h : DS), DOk (some (Lc, xs)) (d + 12) m_L_law 994 [none, some (.ref 0), some (.ref k2), none, none, none, none, none, none, none, none, none, none, none, none, none, none] [] h (K994 k2 h)) (hX : ∀ (a : (Nat × Int32 × Int32)) (h : DS), DOk (some (Lc, xs)) (d + 12) m_L_law 41 [some (.ref 1003000), some (.ref 0), some (.ref a.1), some (.ref p3_41), some (.int a.2.1), some (.int a.2.2), none, none, none, none, none, none, none, none, none, none, none] [] h (X a h)) (s2_706 : Nat) (s4_706 : Int32) (s5_706 : Int32) (s8_706 : Int32) (s9_706 : Int32) (s10_706 : Nat) (s11_706 : Int32) (s12_706 : Int32) (s13_706 : Int32) (s14_706 : Nat) (t0_706 : Int32) (h : DS) : DOk (some (Lc, xs)) (d + 12) m_L_law 706 [some (.ref 1003000), some (.ref 0), some (.ref s2_706), some (.ref p3_41), some (.int s4_706), some (.int s5_706), none, none, some (.int s8_706), some (.int s9_706), some (.ref s10_706), some (.int s11_706), some (.int s12_706), some (.int s13_706), some (.ref s14_706), none, none] [.int t0_706] h (g_L_law_J706_41 N Lc xs p3_41 K994 X s2_706 s4_706 s5_706 s8_706 s9_706 s10_706 s11_706 s12_706 s13_706 s14_706 t0_706 h) := by
  unfold g_L_law_J706_41
  refine dk_istore 708 15 [some (.ref 1003000), some (.ref 0), some (.ref s2_706), some (.ref p3_41), some (.int s4_706), some (.int s5_706), none, none, some (.int s8_706), some (.int s9_706), some (.ref s10_706), some (.int s11_706), some (.int s12_706), some (.int s13_706), some (.ref s14_706), some (.int t0_706), none] dL_law_706 rfl (by decide) rfl ?_
  refine dk_iload 710 13 dL_law_708 rfl rfl ?_
  refine dk_aload 712 14 dL_law_710 rfl rfl ?_
  refine dk_iload 714 12 dL_law_712 rfl rfl ?_
  refine dk_iald 715 dL_law_714 rfl (fun a_714 _ => ?_)
  refine dk_icmp_gt 749 718 dL_law_715 (by decide) rfl (fun _ => ?_) (fun _ => ?_)
  · exact dk_less [some (.ref 1003000), some (.ref 0), some (.ref s2_706), some (.ref p3_41), some (.int s4_706), some (.int s5_706), none, none, some (.int s8_706), some (.int s9_706), some (.ref s10_706), some (.int s11_706), some (.int s12_706), some (.int s13_706), none, some (.int t0_706), none] (And.intro rfl (And.intro rfl (And.intro rfl (And.intro rfl (And.intro rfl (And.intro rfl (And.intro rfl (And.intro rfl (And.intro rfl (And.intro rfl (And.intro rfl (And.intro rfl (And.intro rfl (trivial)))))))))))))) (dj_L_law_J749_41 N d Lc xs p3_41 K994 X hK994 hX s2_706 s4_706 s5_706 s8_706 s9_706 s10_706 s11_706 s12_706 s13_706 t0_706 h)
  · refine dk_iload 720 12 dL_law_718 rfl rfl ?_
    refine dk_if_eq 745 723 dL_law_720 (by decide) rfl (fun _ => ?_) (fun _ => ?_)
    · exact dk_less [some (.ref 1003000), some (.ref 0), some (.ref s2_706), some (.ref p3_41), some (.int s4_706), some (.int s5_706), none, none, some (.int s8_706), some (.int s9_706), some (.ref s10_706), some (.int s11_706), some (.int s12_706), some (.int s13_706), none, some (.int t0_706), none] (And.intro rfl (And.intro rfl (And.intro rfl (And.intro rfl (And.intro rfl (And.intro rfl (And.intro rfl (And.intro rfl (And.intro rfl (And.intro rfl (And.intro rfl (And.intro rfl (And.intro rfl (trivial)))))))))))))) (dj_L_law_J745_41 N d Lc xs p3_41 K994 X hK994 hX s2_706 s4_706 s5_706 s8_706 s9_706 s10_706 s11_706 s12_706 s13_706 t0_706 h)
    · refine dk_iload 725 15 dL_law_723 rfl rfl ?_
      refine dk_iload 727 12 dL_law_725 rfl rfl ?_
      refine dk_iconst 728 3 dL_law_727 rfl rfl ?_
      refine dk_icmp_le 738 731 dL_law_728 (by decide) rfl (fun _ => ?_) (fun _ => ?_)
      · refine dk_aload_n 739 2 dL_law_738 rfl rfl rfl ?_
        refine dk_getIN 742 dL_law_739 rfl rfl FN_EncoresLaw_62 (fun a_739 _ => ?_)
        exact dk_less [some (.ref 1003000), some (.ref 0), some (.ref s2_706), some (.ref p3_41), some (.int s4_706), some (.int s5_706), none, none, some (.int s8_706), some (.int s9_706), some (.ref s10_706), some (.int s11_706), some (.int s12_706), some (.int s13_706), none, some (.int t0_706), none] (And.intro rfl (And.intro rfl (And.intro rfl (And.intro rfl (And.intro rfl (And.intro rfl (And.intro rfl (And.intro rfl (And.intro rfl (And.intro rfl (And.intro rfl (And.intro rfl (And.intro rfl (trivial)))))))))))))) (dj_L_law_J742_41 N d Lc xs p3_41 K994 X hK994 hX s2_706 s4_706 s5_706 s8_706 s9_706 s10_706 s11_706 s12_706 s13_706 t0_706 a_739 t0_706 h)
      · refine dk_aload_n 732 2 dL_law_731 rfl rfl rfl ?_
        refine dk_getIN 735 dL_law_732 rfl rfl FN_EncoresLaw_103 (fun a_732 _ => ?_)
        refine dk_goto 742 dL_law_735 (by decide) ?_
        exact dk_less [some (.ref 1003000), some (.ref 0), some (.ref s2_706), some (.ref p3_41), some (.int s4_706), some (.int s5_706), none, none, some (.int s8_706), some (.int s9_706), some (.ref s10_706), some (.int s11_706), some (.int s12_706), some (.int s13_706), none, some (.int t0_706), none] (And.intro rfl (And.intro rfl (And.intro rfl (And.intro rfl (And.intro rfl (And.intro rfl (And.intro rfl (And.intro rfl (And.intro rfl (And.intro rfl (And.intro rfl (And.intro rfl (And.intro rfl (trivial)))))))))))))) (dj_L_law_J742_41 N d Lc xs p3_41 K994 X hK994 hX s2_706 s4_706 s5_706 s8_706 s9_706 s10_706 s11_706 s12_706 s13_706 t0_706 a_732 t0_706 h)

set_option maxRecDepth 100000 in
set_option maxHeartbeats 4000000 in
theorem dj_L_law_J646_41 (N d : Nat) (Lc : Nat) (xs : Nat → Int32) (p3_41 : Nat)  (K994 : Nat → DS → DA) (X : (Nat × Int32 × Int32) → DS → DA) (hK994 : ∀ (k2 : Nat) (h : DS), DOk (some (Lc, xs)) (d + 12) m_L_law 994 [none, some (.ref 0), some (.ref k2), none, none, none, none, none, none, none, none, none, none, none, none, none, none] [] h (K994 k2 h)) (hX : ∀ (a : (Nat × Int32 × Int32)) (h : DS), DOk (some (Lc, xs)) (d + 12) m_L_law 41 [some (.ref 1003000), some (.ref 0), some (.ref a.1), some (.ref p3_41), some (.int a.2.1), some (.int a.2.2), none, none, none, none, none, none, none, none, none, none, none] [] h (X a h)) (s2_646 : Nat) (s4_646 : Int32) (s5_646 : Int32) (s8_646 : Int32) (s9_646 : Int32) (s10_646 : Nat) (s11_646 : Int32) (s12_646 : Int32) (t0_646 : Int32) (t1_646 : Int32) (t2_646 : Int32) (h : DS) : DOk (some (Lc, xs)) (d + 12) m_L_law 646 [some (.ref 1003000), some (.ref 0), some (.ref s2_646), some (.ref p3_41), some (.int s4_646), some (.int s5_646), none, none, some (.int s8_646), some (.int s9_646), some (.ref s10_646), some (.int s11_646), some (.int s12_646), none, none, none, none] [.int t0_646, .int t1_646, .int t2_646] h (g_L_law_J646_41 N Lc xs p3_41 K994 X s2_646 s4_646 s5_646 s8_646 s9_646 s10_646 s11_646 s12_646 t0_646 t1_646 t2_646 h) := by
  unfold g_L_law_J646_41
  refine dk_callS (np := 3) (M' := m_L_between) (As := [.int t2_646, .int t1_646, .int t0_646]) (st := []) 649 dL_law_646 rfl rfl km_L_between ks_L_between ml_EncoresLaw_37 (by decide) rfl rfl (Nat.le_of_ble_eq_true rfl) (dc_L_between N (d + 11) t2_646 t1_646 t0_646 h) (fun v_646 h_646 e_646 => ?_)
  show DOk _ _ _ _ _ (.int v_646 :: []) _ _
  refine dk_istore 651 13 [some (.ref 1003000), some (.ref 0), some (.ref s2_646), some (.ref p3_41), some (.int s4_646), some (.int s5_646), none, none, some (.int s8_646), some (.int s9_646), some (.ref s10_646), some (.int s11_646), some (.int s12_646), some (.int v_646), none, none, none] dL_law_649 rfl (by decide) rfl ?_
  refine dk_bipush 653 7 dL_law_651 rfl rfl ?_
  refine dk_newaI 655 dL_law_653 rfl (fun h_653 _ => ?_)
  refine dk_dup 656 dL_law_655 rfl rfl ?_
  refine dk_iconst 657 0 dL_law_656 rfl rfl ?_
  refine dk_sipush 660 1000 dL_law_657 rfl rfl ?_
  refine dk_iast 661 dL_law_660 rfl (fun h_660 _ => ?_)
  refine dk_dup 662 dL_law_661 rfl rfl ?_
  refine dk_iconst 663 1 dL_law_662 rfl rfl ?_
  refine dk_bipush 665 9 dL_law_663 rfl rfl ?_
  refine dk_iast 666 dL_law_665 rfl (fun h_665 _ => ?_)
  refine dk_dup 667 dL_law_666 rfl rfl ?_
  refine dk_iconst 668 2 dL_law_667 rfl rfl ?_
  refine dk_bipush 670 9 dL_law_668 rfl rfl ?_
  refine dk_iast 671 dL_law_670 rfl (fun h_670 _ => ?_)
  refine dk_dup 672 dL_law_671 rfl rfl ?_
  refine dk_iconst 673 3 dL_law_672 rfl rfl ?_
  refine dk_bipush 675 9 dL_law_673 rfl rfl ?_
  refine dk_iast 676 dL_law_675 rfl (fun h_675 _ => ?_)
  refine dk_dup 677 dL_law_676 rfl rfl ?_
  refine dk_iconst 678 4 dL_law_677 rfl rfl ?_
  refine dk_bipush 680 9 dL_law_678 rfl rfl ?_
  refine dk_iast 681 dL_law_680 rfl (fun h_680 _ => ?_)
  refine dk_dup 682 dL_law_681 rfl rfl ?_
  refine dk_iconst 683 5 dL_law_682 rfl rfl ?_
  refine dk_bipush 685 99 dL_law_683 rfl rfl ?_
  refine dk_iast 686 dL_law_685 rfl (fun h_685 _ => ?_)
  refine dk_dup 687 dL_law_686 rfl rfl ?_
  refine dk_bipush 689 6 dL_law_687 rfl rfl ?_
  refine dk_iconst 690 (-1) dL_law_689 rfl rfl ?_
  refine dk_iast 691 dL_law_690 rfl (fun h_690 _ => ?_)
  refine dk_astore 693 14 [some (.ref 1003000), some (.ref 0), some (.ref s2_646), some (.ref p3_41), some (.int s4_646), some (.int s5_646), none, none, some (.int s8_646), some (.int s9_646), some (.ref s10_646), some (.int s11_646), some (.int s12_646), some (.int v_646), some (.ref h_646.2.1.length), none, none] dL_law_691 rfl (by decide) rfl ?_
  refine dk_iload 695 12 dL_law_693 rfl rfl ?_
  refine dk_iconst 696 3 dL_law_695 rfl rfl ?_
  refine dk_icmp_le 704 699 dL_law_696 (by decide) rfl (fun _ => ?_) (fun _ => ?_)
  · refine dk_iload 706 8 dL_law_704 rfl rfl ?_
    exact dk_less [some (.ref 1003000), some (.ref 0), some (.ref s2_646), some (.ref p3_41), some (.int s4_646), some (.int s5_646), none, none, some (.int s8_646), some (.int s9_646), some (.ref s10_646), some (.int s11_646), some (.int s12_646), some (.int v_646), some (.ref h_646.2.1.length), none, none] (And.intro rfl (And.intro rfl (And.intro rfl (And.intro rfl (And.intro rfl (And.intro rfl (And.intro rfl (And.intro rfl (And.intro rfl (And.intro rfl (And.intro rfl (And.intro rfl (And.intro rfl (trivial)))))))))))))) (dj_L_law_J706_41 N d Lc xs p3_41 K994 X hK994 hX s2_646 s4_646 s5_646 s8_646 s9_646 s10_646 s11_646 s12_646 v_646 h_646.2.1.length s8_646 h_690)
  · refine dk_iload 701 9 dL_law_699 rfl rfl ?_
    refine dk_goto 706 dL_law_701 (by decide) ?_
    exact dk_less [some (.ref 1003000), some (.ref 0), some (.ref s2_646), some (.ref p3_41), some (.int s4_646), some (.int s5_646), none, none, some (.int s8_646), some (.int s9_646), some (.ref s10_646), some (.int s11_646), some (.int s12_646), some (.int v_646), some (.ref h_646.2.1.length), none, none] (And.intro rfl (And.intro rfl (And.intro rfl (And.intro rfl (And.intro rfl (And.intro rfl (And.intro rfl (And.intro rfl (And.intro rfl (And.intro rfl (And.intro rfl (And.intro rfl (And.intro rfl (trivial)))))))))))))) (dj_L_law_J706_41 N d Lc xs p3_41 K994 X hK994 hX s2_646 s4_646 s5_646 s8_646 s9_646 s10_646 s11_646 s12_646 v_646 h_646.2.1.length s9_646 h_690)

set_option maxRecDepth 100000 in
set_option maxHeartbeats 4000000 in
theorem dj_L_law_J587_41 (N d : Nat) (Lc : Nat) (xs : Nat → Int32) (p3_41 : Nat)  (K994 : Nat → DS → DA) (X : (Nat × Int32 × Int32) → DS → DA) (hK994 : ∀ (k2 : Nat) (h : DS), DOk (some (Lc, xs)) (d + 12) m_L_law 994 [none, some (.ref 0), some (.ref k2), none, none, none, none, none, none, none, none, none, none, none, none, none, none] [] h (K994 k2 h)) (hX : ∀ (a : (Nat × Int32 × Int32)) (h : DS), DOk (some (Lc, xs)) (d + 12) m_L_law 41 [some (.ref 1003000), some (.ref 0), some (.ref a.1), some (.ref p3_41), some (.int a.2.1), some (.int a.2.2), none, none, none, none, none, none, none, none, none, none, none] [] h (X a h)) (s2_587 : Nat) (s4_587 : Int32) (s5_587 : Int32) (s10_587 : Nat) (s11_587 : Int32) (t0_587 : Int32) (h : DS) : DOk (some (Lc, xs)) (d + 12) m_L_law 587 [some (.ref 1003000), some (.ref 0), some (.ref s2_587), some (.ref p3_41), some (.int s4_587), some (.int s5_587), none, none, none, none, some (.ref s10_587), some (.int s11_587), none, none, none, none, none] [.int t0_587] h (g_L_law_J587_41 N Lc xs p3_41 K994 X s2_587 s4_587 s5_587 s10_587 s11_587 t0_587 h) := by
  unfold g_L_law_J587_41
  refine dk_iload 589 11 dL_law_587 rfl rfl ?_
  refine dk_icmp_eq 594 592 dL_law_589 (by decide) rfl (fun _ => ?_) (fun _ => ?_)
  · refine dk_goto 917 dL_law_594 (by decide) ?_
    exact dk_less [some (.ref 1003000), some (.ref 0), some (.ref s2_587), some (.ref p3_41), some (.int s4_587), some (.int s5_587), none, none, none, none, some (.ref s10_587), some (.int s11_587), none, none, none, none, none] (And.intro rfl (And.intro rfl (And.intro rfl (And.intro rfl (And.intro rfl (And.intro rfl (And.intro rfl (And.intro rfl (trivial))))))))) (dj_L_law_J917_41 N d Lc xs p3_41 K994 X hK994 hX s2_587 s4_587 s5_587 s10_587 s11_587 h)
  · refine dk_iconst 593 0 dL_law_592 rfl rfl ?_
    exact dk_zretc dL_law_593 rfl rfl

set_option maxRecDepth 100000 in
set_option maxHeartbeats 4000000 in
theorem dj_L_law_J562_41 (N d : Nat) (Lc : Nat) (xs : Nat → Int32) (p3_41 : Nat)  (K994 : Nat → DS → DA) (X : (Nat × Int32 × Int32) → DS → DA) (hK994 : ∀ (k2 : Nat) (h : DS), DOk (some (Lc, xs)) (d + 12) m_L_law 994 [none, some (.ref 0), some (.ref k2), none, none, none, none, none, none, none, none, none, none, none, none, none, none] [] h (K994 k2 h)) (hX : ∀ (a : (Nat × Int32 × Int32)) (h : DS), DOk (some (Lc, xs)) (d + 12) m_L_law 41 [some (.ref 1003000), some (.ref 0), some (.ref a.1), some (.ref p3_41), some (.int a.2.1), some (.int a.2.2), none, none, none, none, none, none, none, none, none, none, none] [] h (X a h)) (s2_562 : Nat) (s4_562 : Int32) (s5_562 : Int32) (s8_562 : Int32) (s10_562 : Nat) (s11_562 : Int32) (s12_562 : Int32) (s13_562 : Int32) (h : DS) : DOk (some (Lc, xs)) (d + 12) m_L_law 562 [some (.ref 1003000), some (.ref 0), some (.ref s2_562), some (.ref p3_41), some (.int s4_562), some (.int s5_562), none, none, some (.int s8_562), none, some (.ref s10_562), some (.int s11_562), some (.int s12_562), some (.int s13_562), none, none, none] [] h (g_L_law_J562_41 N Lc xs p3_41 K994 X s2_562 s4_562 s5_562 s8_562 s10_562 s11_562 s12_562 s13_562 h) := by
  unfold g_L_law_J562_41
  refine dk_iload 564 12 dL_law_562 rfl rfl ?_
  refine dk_iconst 565 4 dL_law_564 rfl rfl ?_
  refine dk_icmp_ne 579 568 dL_law_565 (by decide) rfl (fun _ => ?_) (fun _ => ?_)
  · refine dk_aload_n 580 1 dL_law_579 rfl rfl rfl ?_
    refine dk_iload 582 8 dL_law_580 rfl rfl ?_
    refine dk_iload 584 13 dL_law_582 rfl rfl ?_
    refine dk_callXV (np := 2) (M' := m_X11_let) (As := [.int s8_562, .int s13_562]) (st := []) 587 dL_law_584 rfl rfl km_X11_let ki_X11_let kv_X11_let ml_EncoresLaw_219 (by decide) rfl rfl rfl (fun k hk => by simp at hk) (Nat.le_of_ble_eq_true rfl) (c_X11_let N (d + 6) s8_562 s13_562 h.1) (fun _ h => by cases h; exact pr_bool) (fun v_584 n_584 e_584 => ?_)
    generalize pat h n_584 = hh_584
    refine dk_gs (fun h_584 _ => ?_)
    show DOk _ _ _ _ _ (.int v_584 :: []) _ _
    exact dk_less [some (.ref 1003000), some (.ref 0), some (.ref s2_562), some (.ref p3_41), some (.int s4_562), some (.int s5_562), none, none, none, none, some (.ref s10_562), some (.int s11_562), none, none, none, none, none] (And.intro rfl (And.intro rfl (And.intro rfl (And.intro rfl (And.intro rfl (And.intro rfl (And.intro rfl (And.intro rfl (trivial))))))))) (dj_L_law_J587_41 N d Lc xs p3_41 K994 X hK994 hX s2_562 s4_562 s5_562 s10_562 s11_562 v_584 h_584)
  · refine dk_aload_n 569 1 dL_law_568 rfl rfl rfl ?_
    refine dk_iload 571 8 dL_law_569 rfl rfl ?_
    refine dk_iload 573 13 dL_law_571 rfl rfl ?_
    refine dk_callXV (np := 2) (M' := m_X11_glove) (As := [.int s8_562, .int s13_562]) (st := []) 576 dL_law_573 rfl rfl km_X11_glove ki_X11_glove kv_X11_glove ml_EncoresLaw_215 (by decide) rfl rfl rfl (fun k hk => by simp at hk) (Nat.le_of_ble_eq_true rfl) (c_X11_glove N (d + 6) s8_562 s13_562 h.1) (fun _ h => by cases h; exact pr_bool) (fun v_573 n_573 e_573 => ?_)
    generalize pat h n_573 = hh_573
    refine dk_gs (fun h_573 _ => ?_)
    show DOk _ _ _ _ _ (.int v_573 :: []) _ _
    refine dk_goto 587 dL_law_576 (by decide) ?_
    exact dk_less [some (.ref 1003000), some (.ref 0), some (.ref s2_562), some (.ref p3_41), some (.int s4_562), some (.int s5_562), none, none, none, none, some (.ref s10_562), some (.int s11_562), none, none, none, none, none] (And.intro rfl (And.intro rfl (And.intro rfl (And.intro rfl (And.intro rfl (And.intro rfl (And.intro rfl (And.intro rfl (trivial))))))))) (dj_L_law_J587_41 N d Lc xs p3_41 K994 X hK994 hX s2_562 s4_562 s5_562 s10_562 s11_562 v_573 h_573)

set_option maxRecDepth 100000 in
set_option maxHeartbeats 4000000 in
theorem dj_L_law_J558_41 (N d : Nat) (Lc : Nat) (xs : Nat → Int32) (p3_41 : Nat)  (K994 : Nat → DS → DA) (X : (Nat × Int32 × Int32) → DS → DA) (hK994 : ∀ (k2 : Nat) (h : DS), DOk (some (Lc, xs)) (d + 12) m_L_law 994 [none, some (.ref 0), some (.ref k2), none, none, none, none, none, none, none, none, none, none, none, none, none, none] [] h (K994 k2 h)) (hX : ∀ (a : (Nat × Int32 × Int32)) (h : DS), DOk (some (Lc, xs)) (d + 12) m_L_law 41 [some (.ref 1003000), some (.ref 0), some (.ref a.1), some (.ref p3_41), some (.int a.2.1), some (.int a.2.2), none, none, none, none, none, none, none, none, none, none, none] [] h (X a h)) (s2_558 : Nat) (s4_558 : Int32) (s5_558 : Int32) (s8_558 : Int32) (s10_558 : Nat) (s11_558 : Int32) (s12_558 : Int32) (s13_558 : Int32) (t0_558 : Int32) (t1_558 : Int32) (t2_558 : Int32) (t3_558 : Nat) (h : DS) : DOk (some (Lc, xs)) (d + 12) m_L_law 558 [some (.ref 1003000), some (.ref 0), some (.ref s2_558), some (.ref p3_41), some (.int s4_558), some (.int s5_558), none, none, some (.int s8_558), none, some (.ref s10_558), some (.int s11_558), some (.int s12_558), some (.int s13_558), none, none, none] [.int t0_558, .int t1_558, .int t2_558, .ref t3_558] h (g_L_law_J558_41 N Lc xs p3_41 K994 X s2_558 s4_558 s5_558 s8_558 s10_558 s11_558 s12_558 s13_558 t0_558 t1_558 t2_558 t3_558 h) := by
  unfold g_L_law_J558_41
  refine dk_iconst 559 1 dL_law_558 rfl rfl ?_
  refine dk_callV (np := 4) (M' := m_X12_notes) (As := [.int t2_558, .int t1_558, .int t0_558, .int 1]) (st := []) 12 562 dL_law_559 rfl rfl km_X12_notes ki_X12_notes kv_X12_notes ml_EncoresLaw_207 (by decide) (by decide) rfl rfl rfl (Nat.le_of_ble_eq_true rfl) (dc_X12_notes N (d + 11) t3_558 t2_558 t1_558 t0_558 (1 : Int32) h) (fun v_559 h_559 e_559 => ?_)
  show DOk _ _ _ _ _ [] _ _
  exact dk_less [some (.ref 1003000), some (.ref 0), some (.ref s2_558), some (.ref p3_41), some (.int s4_558), some (.int s5_558), none, none, some (.int s8_558), none, some (.ref s10_558), some (.int s11_558), some (.int s12_558), some (.int s13_558), none, none, none] (And.intro rfl (And.intro rfl (And.intro rfl (And.intro rfl (And.intro rfl (And.intro rfl (And.intro rfl (And.intro rfl (And.intro rfl (And.intro rfl (And.intro rfl (trivial)))))))))))) (dj_L_law_J562_41 N d Lc xs p3_41 K994 X hK994 hX s2_558 s4_558 s5_558 s8_558 s10_558 s11_558 s12_558 s13_558 h_559)

set_option maxRecDepth 100000 in
set_option maxHeartbeats 4000000 in
theorem dj_L_law_J546_41 (N d : Nat) (Lc : Nat) (xs : Nat → Int32) (p3_41 : Nat)  (K994 : Nat → DS → DA) (X : (Nat × Int32 × Int32) → DS → DA) (hK994 : ∀ (k2 : Nat) (h : DS), DOk (some (Lc, xs)) (d + 12) m_L_law 994 [none, some (.ref 0), some (.ref k2), none, none, none, none, none, none, none, none, none, none, none, none, none, none] [] h (K994 k2 h)) (hX : ∀ (a : (Nat × Int32 × Int32)) (h : DS), DOk (some (Lc, xs)) (d + 12) m_L_law 41 [some (.ref 1003000), some (.ref 0), some (.ref a.1), some (.ref p3_41), some (.int a.2.1), some (.int a.2.2), none, none, none, none, none, none, none, none, none, none, none] [] h (X a h)) (s2_546 : Nat) (s4_546 : Int32) (s5_546 : Int32) (s8_546 : Int32) (s10_546 : Nat) (s11_546 : Int32) (s12_546 : Int32) (s13_546 : Int32) (t0_546 : Int32) (t1_546 : Nat) (h : DS) : DOk (some (Lc, xs)) (d + 12) m_L_law 546 [some (.ref 1003000), some (.ref 0), some (.ref s2_546), some (.ref p3_41), some (.int s4_546), some (.int s5_546), none, none, some (.int s8_546), none, some (.ref s10_546), some (.int s11_546), some (.int s12_546), some (.int s13_546), none, none, none] [.int t0_546, .ref t1_546] h (g_L_law_J546_41 N Lc xs p3_41 K994 X s2_546 s4_546 s5_546 s8_546 s10_546 s11_546 s12_546 s13_546 t0_546 t1_546 h) := by
  unfold g_L_law_J546_41
  refine dk_iload 548 8 dL_law_546 rfl rfl ?_
  refine dk_iload 550 13 dL_law_548 rfl rfl ?_
  refine dk_if_eq 557 553 dL_law_550 (by decide) rfl (fun _ => ?_) (fun _ => ?_)
  · refine dk_iconst 558 0 dL_law_557 rfl rfl ?_
    exact dk_less [some (.ref 1003000), some (.ref 0), some (.ref s2_546), some (.ref p3_41), some (.int s4_546), some (.int s5_546), none, none, some (.int s8_546), none, some (.ref s10_546), some (.int s11_546), some (.int s12_546), some (.int s13_546), none, none, none] (And.intro rfl (And.intro rfl (And.intro rfl (And.intro rfl (And.intro rfl (And.intro rfl (And.intro rfl (And.intro rfl (And.intro rfl (And.intro rfl (And.intro rfl (trivial)))))))))))) (dj_L_law_J558_41 N d Lc xs p3_41 K994 X hK994 hX s2_546 s4_546 s5_546 s8_546 s10_546 s11_546 s12_546 s13_546 (0 : Int32) s8_546 t0_546 t1_546 h)
  · refine dk_iconst 554 1 dL_law_553 rfl rfl ?_
    refine dk_goto 558 dL_law_554 (by decide) ?_
    exact dk_less [some (.ref 1003000), some (.ref 0), some (.ref s2_546), some (.ref p3_41), some (.int s4_546), some (.int s5_546), none, none, some (.int s8_546), none, some (.ref s10_546), some (.int s11_546), some (.int s12_546), some (.int s13_546), none, none, none] (And.intro rfl (And.intro rfl (And.intro rfl (And.intro rfl (And.intro rfl (And.intro rfl (And.intro rfl (And.intro rfl (And.intro rfl (And.intro rfl (And.intro rfl (trivial)))))))))))) (dj_L_law_J558_41 N d Lc xs p3_41 K994 X hK994 hX s2_546 s4_546 s5_546 s8_546 s10_546 s11_546 s12_546 s13_546 (1 : Int32) s8_546 t0_546 t1_546 h)

set_option maxRecDepth 100000 in
set_option maxHeartbeats 4000000 in
theorem dj_L_law_J533_41 (N d : Nat) (Lc : Nat) (xs : Nat → Int32) (p3_41 : Nat)  (K994 : Nat → DS → DA) (X : (Nat × Int32 × Int32) → DS → DA) (hK994 : ∀ (k2 : Nat) (h : DS), DOk (some (Lc, xs)) (d + 12) m_L_law 994 [none, some (.ref 0), some (.ref k2), none, none, none, none, none, none, none, none, none, none, none, none, none, none] [] h (K994 k2 h)) (hX : ∀ (a : (Nat × Int32 × Int32)) (h : DS), DOk (some (Lc, xs)) (d + 12) m_L_law 41 [some (.ref 1003000), some (.ref 0), some (.ref a.1), some (.ref p3_41), some (.int a.2.1), some (.int a.2.2), none, none, none, none, none, none, none, none, none, none, none] [] h (X a h)) (s2_533 : Nat) (s4_533 : Int32) (s5_533 : Int32) (s8_533 : Int32) (s10_533 : Nat) (s11_533 : Int32) (s12_533 : Int32) (s13_533 : Int32) (t0_533 : Int32) (t1_533 : Int32) (t2_533 : Nat) (h : DS) : DOk (some (Lc, xs)) (d + 12) m_L_law 533 [some (.ref 1003000), some (.ref 0), some (.ref s2_533), some (.ref p3_41), some (.int s4_533), some (.int s5_533), none, none, some (.int s8_533), none, some (.ref s10_533), some (.int s11_533), some (.int s12_533), some (.int s13_533), none, none, none] [.int t0_533, .int t1_533, .ref t2_533] h (g_L_law_J533_41 N Lc xs p3_41 K994 X s2_533 s4_533 s5_533 s8_533 s10_533 s11_533 s12_533 s13_533 t0_533 t1_533 t2_533 h) := by
  unfold g_L_law_J533_41
  refine dk_iast 534 dL_law_533 rfl (fun h_533 _ => ?_)
  refine dk_aload_n 535 2 dL_law_534 rfl rfl rfl ?_
  refine dk_iload 537 12 dL_law_535 rfl rfl ?_
  refine dk_iconst 538 4 dL_law_537 rfl rfl ?_
  refine dk_icmp_ne 545 541 dL_law_538 (by decide) rfl (fun _ => ?_) (fun _ => ?_)
  · refine dk_iconst 546 5 dL_law_545 rfl rfl ?_
    exact dk_less [some (.ref 1003000), some (.ref 0), some (.ref s2_533), some (.ref p3_41), some (.int s4_533), some (.int s5_533), none, none, some (.int s8_533), none, some (.ref s10_533), some (.int s11_533), some (.int s12_533), some (.int s13_533), none, none, none] (And.intro rfl (And.intro rfl (And.intro rfl (And.intro rfl (And.intro rfl (And.intro rfl (And.intro rfl (And.intro rfl (And.intro rfl (And.intro rfl (And.intro rfl (trivial)))))))))))) (dj_L_law_J546_41 N d Lc xs p3_41 K994 X hK994 hX s2_533 s4_533 s5_533 s8_533 s10_533 s11_533 s12_533 s13_533 (5 : Int32) s2_533 h_533)
  · refine dk_iconst 542 4 dL_law_541 rfl rfl ?_
    refine dk_goto 546 dL_law_542 (by decide) ?_
    exact dk_less [some (.ref 1003000), some (.ref 0), some (.ref s2_533), some (.ref p3_41), some (.int s4_533), some (.int s5_533), none, none, some (.int s8_533), none, some (.ref s10_533), some (.int s11_533), some (.int s12_533), some (.int s13_533), none, none, none] (And.intro rfl (And.intro rfl (And.intro rfl (And.intro rfl (And.intro rfl (And.intro rfl (And.intro rfl (And.intro rfl (And.intro rfl (And.intro rfl (And.intro rfl (trivial)))))))))))) (dj_L_law_J546_41 N d Lc xs p3_41 K994 X hK994 hX s2_533 s4_533 s5_533 s8_533 s10_533 s11_533 s12_533 s13_533 (4 : Int32) s2_533 h_533)

set_option maxRecDepth 100000 in
set_option maxHeartbeats 4000000 in
theorem dj_L_law_J507_41 (N d : Nat) (Lc : Nat) (xs : Nat → Int32) (p3_41 : Nat)  (K994 : Nat → DS → DA) (X : (Nat × Int32 × Int32) → DS → DA) (hK994 : ∀ (k2 : Nat) (h : DS), DOk (some (Lc, xs)) (d + 12) m_L_law 994 [none, some (.ref 0), some (.ref k2), none, none, none, none, none, none, none, none, none, none, none, none, none, none] [] h (K994 k2 h)) (hX : ∀ (a : (Nat × Int32 × Int32)) (h : DS), DOk (some (Lc, xs)) (d + 12) m_L_law 41 [some (.ref 1003000), some (.ref 0), some (.ref a.1), some (.ref p3_41), some (.int a.2.1), some (.int a.2.2), none, none, none, none, none, none, none, none, none, none, none] [] h (X a h)) (s2_507 : Nat) (s4_507 : Int32) (s5_507 : Int32) (s8_507 : Int32) (s10_507 : Nat) (s12_507 : Int32) (s13_507 : Int32) (t0_507 : Int32) (h : DS) : DOk (some (Lc, xs)) (d + 12) m_L_law 507 [some (.ref 1003000), some (.ref 0), some (.ref s2_507), some (.ref p3_41), some (.int s4_507), some (.int s5_507), none, none, some (.int s8_507), none, some (.ref s10_507), none, some (.int s12_507), some (.int s13_507), none, none, none] [.int t0_507] h (g_L_law_J507_41 N Lc xs p3_41 K994 X s2_507 s4_507 s5_507 s8_507 s10_507 s12_507 s13_507 t0_507 h) := by
  unfold g_L_law_J507_41
  refine dk_istore 509 11 [some (.ref 1003000), some (.ref 0), some (.ref s2_507), some (.ref p3_41), some (.int s4_507), some (.int s5_507), none, none, some (.int s8_507), none, some (.ref s10_507), some (.int t0_507), some (.int s12_507), some (.int s13_507), none, none, none] dL_law_507 rfl (by decide) rfl ?_
  refine dk_iload 511 11 dL_law_509 rfl rfl ?_
  refine dk_if_eq 562 514 dL_law_511 (by decide) rfl (fun _ => ?_) (fun _ => ?_)
  · exact dk_less [some (.ref 1003000), some (.ref 0), some (.ref s2_507), some (.ref p3_41), some (.int s4_507), some (.int s5_507), none, none, some (.int s8_507), none, some (.ref s10_507), some (.int t0_507), some (.int s12_507), some (.int s13_507), none, none, none] (And.intro rfl (And.intro rfl (And.intro rfl (And.intro rfl (And.intro rfl (And.intro rfl (And.intro rfl (And.intro rfl (And.intro rfl (And.intro rfl (And.intro rfl (trivial)))))))))))) (dj_L_law_J562_41 N d Lc xs p3_41 K994 X hK994 hX s2_507 s4_507 s5_507 s8_507 s10_507 t0_507 s12_507 s13_507 h)
  · refine dk_aload_n 515 2 dL_law_514 rfl rfl rfl ?_
    refine dk_getRN 518 dL_law_515 rfl rfl FN_EncoresLaw_147 (fun r_515 _ => ?_)
    refine dk_iload 520 8 dL_law_518 rfl rfl ?_
    refine dk_aald 103 521 (Or.inl rfl) dL_law_520 rfl (fun r_520 _ => ?_)
    refine dk_iload 523 12 dL_law_521 rfl rfl ?_
    refine dk_iload 525 13 dL_law_523 rfl rfl ?_
    refine dk_if_eq 532 528 dL_law_525 (by decide) rfl (fun _ => ?_) (fun _ => ?_)
    · refine dk_iconst 533 0 dL_law_532 rfl rfl ?_
      exact dk_less [some (.ref 1003000), some (.ref 0), some (.ref s2_507), some (.ref p3_41), some (.int s4_507), some (.int s5_507), none, none, some (.int s8_507), none, some (.ref s10_507), some (.int t0_507), some (.int s12_507), some (.int s13_507), none, none, none] (And.intro rfl (And.intro rfl (And.intro rfl (And.intro rfl (And.intro rfl (And.intro rfl (And.intro rfl (And.intro rfl (And.intro rfl (And.intro rfl (And.intro rfl (trivial)))))))))))) (dj_L_law_J533_41 N d Lc xs p3_41 K994 X hK994 hX s2_507 s4_507 s5_507 s8_507 s10_507 t0_507 s12_507 s13_507 (0 : Int32) s12_507 r_520 h)
    · refine dk_iconst 529 1 dL_law_528 rfl rfl ?_
      refine dk_goto 533 dL_law_529 (by decide) ?_
      exact dk_less [some (.ref 1003000), some (.ref 0), some (.ref s2_507), some (.ref p3_41), some (.int s4_507), some (.int s5_507), none, none, some (.int s8_507), none, some (.ref s10_507), some (.int t0_507), some (.int s12_507), some (.int s13_507), none, none, none] (And.intro rfl (And.intro rfl (And.intro rfl (And.intro rfl (And.intro rfl (And.intro rfl (And.intro rfl (And.intro rfl (And.intro rfl (And.intro rfl (And.intro rfl (trivial)))))))))))) (dj_L_law_J533_41 N d Lc xs p3_41 K994 X hK994 hX s2_507 s4_507 s5_507 s8_507 s10_507 t0_507 s12_507 s13_507 (1 : Int32) s12_507 r_520 h)

set_option maxRecDepth 100000 in
set_option maxHeartbeats 4000000 in
theorem dj_L_law_J506_41 (N d : Nat) (Lc : Nat) (xs : Nat → Int32) (p3_41 : Nat)  (K994 : Nat → DS → DA) (X : (Nat × Int32 × Int32) → DS → DA) (hK994 : ∀ (k2 : Nat) (h : DS), DOk (some (Lc, xs)) (d + 12) m_L_law 994 [none, some (.ref 0), some (.ref k2), none, none, none, none, none, none, none, none, none, none, none, none, none, none] [] h (K994 k2 h)) (hX : ∀ (a : (Nat × Int32 × Int32)) (h : DS), DOk (some (Lc, xs)) (d + 12) m_L_law 41 [some (.ref 1003000), some (.ref 0), some (.ref a.1), some (.ref p3_41), some (.int a.2.1), some (.int a.2.2), none, none, none, none, none, none, none, none, none, none, none] [] h (X a h)) (s2_506 : Nat) (s4_506 : Int32) (s5_506 : Int32) (s8_506 : Int32) (s10_506 : Nat) (s12_506 : Int32) (s13_506 : Int32) (h : DS) : DOk (some (Lc, xs)) (d + 12) m_L_law 506 [some (.ref 1003000), some (.ref 0), some (.ref s2_506), some (.ref p3_41), some (.int s4_506), some (.int s5_506), none, none, some (.int s8_506), none, some (.ref s10_506), none, some (.int s12_506), some (.int s13_506), none, none, none] [] h (g_L_law_J506_41 N Lc xs p3_41 K994 X s2_506 s4_506 s5_506 s8_506 s10_506 s12_506 s13_506 h) := by
  unfold g_L_law_J506_41
  refine dk_iconst 507 0 dL_law_506 rfl rfl ?_
  exact dk_less [some (.ref 1003000), some (.ref 0), some (.ref s2_506), some (.ref p3_41), some (.int s4_506), some (.int s5_506), none, none, some (.int s8_506), none, some (.ref s10_506), none, some (.int s12_506), some (.int s13_506), none, none, none] (And.intro rfl (And.intro rfl (And.intro rfl (And.intro rfl (And.intro rfl (And.intro rfl (And.intro rfl (And.intro rfl (And.intro rfl (And.intro rfl (trivial))))))))))) (dj_L_law_J507_41 N d Lc xs p3_41 K994 X hK994 hX s2_506 s4_506 s5_506 s8_506 s10_506 s12_506 s13_506 (0 : Int32) h)

set_option maxRecDepth 100000 in
set_option maxHeartbeats 4000000 in
theorem dj_L_law_J499_41 (N d : Nat) (Lc : Nat) (xs : Nat → Int32) (p3_41 : Nat)  (K994 : Nat → DS → DA) (X : (Nat × Int32 × Int32) → DS → DA) (hK994 : ∀ (k2 : Nat) (h : DS), DOk (some (Lc, xs)) (d + 12) m_L_law 994 [none, some (.ref 0), some (.ref k2), none, none, none, none, none, none, none, none, none, none, none, none, none, none] [] h (K994 k2 h)) (hX : ∀ (a : (Nat × Int32 × Int32)) (h : DS), DOk (some (Lc, xs)) (d + 12) m_L_law 41 [some (.ref 1003000), some (.ref 0), some (.ref a.1), some (.ref p3_41), some (.int a.2.1), some (.int a.2.2), none, none, none, none, none, none, none, none, none, none, none] [] h (X a h)) (s2_499 : Nat) (s4_499 : Int32) (s5_499 : Int32) (s8_499 : Int32) (s10_499 : Nat) (s12_499 : Int32) (s13_499 : Int32) (t0_499 : Int32) (t1_499 : Int32) (h : DS) : DOk (some (Lc, xs)) (d + 12) m_L_law 499 [some (.ref 1003000), some (.ref 0), some (.ref s2_499), some (.ref p3_41), some (.int s4_499), some (.int s5_499), none, none, some (.int s8_499), none, some (.ref s10_499), none, some (.int s12_499), some (.int s13_499), none, none, none] [.int t0_499, .int t1_499] h (g_L_law_J499_41 N Lc xs p3_41 K994 X s2_499 s4_499 s5_499 s8_499 s10_499 s12_499 s13_499 t0_499 t1_499 h) := by
  unfold g_L_law_J499_41
  refine dk_icmp_eq 506 502 dL_law_499 (by decide) rfl (fun _ => ?_) (fun _ => ?_)
  · exact dk_less [some (.ref 1003000), some (.ref 0), some (.ref s2_499), some (.ref p3_41), some (.int s4_499), some (.int s5_499), none, none, some (.int s8_499), none, some (.ref s10_499), none, some (.int s12_499), some (.int s13_499), none, none, none] (And.intro rfl (And.intro rfl (And.intro rfl (And.intro rfl (And.intro rfl (And.intro rfl (And.intro rfl (And.intro rfl (And.intro rfl (And.intro rfl (trivial))))))))))) (dj_L_law_J506_41 N d Lc xs p3_41 K994 X hK994 hX s2_499 s4_499 s5_499 s8_499 s10_499 s12_499 s13_499 h)
  · refine dk_iconst 503 1 dL_law_502 rfl rfl ?_
    refine dk_goto 507 dL_law_503 (by decide) ?_
    exact dk_less [some (.ref 1003000), some (.ref 0), some (.ref s2_499), some (.ref p3_41), some (.int s4_499), some (.int s5_499), none, none, some (.int s8_499), none, some (.ref s10_499), none, some (.int s12_499), some (.int s13_499), none, none, none] (And.intro rfl (And.intro rfl (And.intro rfl (And.intro rfl (And.intro rfl (And.intro rfl (And.intro rfl (And.intro rfl (And.intro rfl (And.intro rfl (trivial))))))))))) (dj_L_law_J507_41 N d Lc xs p3_41 K994 X hK994 hX s2_499 s4_499 s5_499 s8_499 s10_499 s12_499 s13_499 (1 : Int32) h)

set_option maxRecDepth 100000 in
set_option maxHeartbeats 4000000 in
theorem dj_L_law_J468_41 (N d : Nat) (Lc : Nat) (xs : Nat → Int32) (p3_41 : Nat)  (K994 : Nat → DS → DA) (X : (Nat × Int32 × Int32) → DS → DA) (hK994 : ∀ (k2 : Nat) (h : DS), DOk (some (Lc, xs)) (d + 12) m_L_law 994 [none, some (.ref 0), some (.ref k2), none, none, none, none, none, none, none, none, none, none, none, none, none, none] [] h (K994 k2 h)) (hX : ∀ (a : (Nat × Int32 × Int32)) (h : DS), DOk (some (Lc, xs)) (d + 12) m_L_law 41 [some (.ref 1003000), some (.ref 0), some (.ref a.1), some (.ref p3_41), some (.int a.2.1), some (.int a.2.2), none, none, none, none, none, none, none, none, none, none, none] [] h (X a h)) (s2_468 : Nat) (s4_468 : Int32) (s5_468 : Int32) (s8_468 : Int32) (s10_468 : Nat) (s12_468 : Int32) (t0_468 : Int32) (h : DS) : DOk (some (Lc, xs)) (d + 12) m_L_law 468 [some (.ref 1003000), some (.ref 0), some (.ref s2_468), some (.ref p3_41), some (.int s4_468), some (.int s5_468), none, none, some (.int s8_468), none, some (.ref s10_468), none, some (.int s12_468), none, none, none, none] [.int t0_468] h (g_L_law_J468_41 N Lc xs p3_41 K994 X s2_468 s4_468 s5_468 s8_468 s10_468 s12_468 t0_468 h) := by
  unfold g_L_law_J468_41
  refine dk_istore 470 13 [some (.ref 1003000), some (.ref 0), some (.ref s2_468), some (.ref p3_41), some (.int s4_468), some (.int s5_468), none, none, some (.int s8_468), none, some (.ref s10_468), none, some (.int s12_468), some (.int t0_468), none, none, none] dL_law_468 rfl (by decide) rfl ?_
  refine dk_iload 472 8 dL_law_470 rfl rfl ?_
  refine dk_aload_n 473 2 dL_law_472 rfl rfl rfl ?_
  refine dk_getIN 476 dL_law_473 rfl rfl FN_EncoresLaw_62 (fun a_473 _ => ?_)
  refine dk_icmp_ge 506 479 dL_law_476 (by decide) rfl (fun _ => ?_) (fun _ => ?_)
  · exact dk_less [some (.ref 1003000), some (.ref 0), some (.ref s2_468), some (.ref p3_41), some (.int s4_468), some (.int s5_468), none, none, some (.int s8_468), none, some (.ref s10_468), none, some (.int s12_468), some (.int t0_468), none, none, none] (And.intro rfl (And.intro rfl (And.intro rfl (And.intro rfl (And.intro rfl (And.intro rfl (And.intro rfl (And.intro rfl (And.intro rfl (And.intro rfl (trivial))))))))))) (dj_L_law_J506_41 N d Lc xs p3_41 K994 X hK994 hX s2_468 s4_468 s5_468 s8_468 s10_468 s12_468 t0_468 h)
  · refine dk_aload_n 480 2 dL_law_479 rfl rfl rfl ?_
    refine dk_getRN 483 dL_law_480 rfl rfl FN_EncoresLaw_147 (fun r_480 _ => ?_)
    refine dk_iload 485 8 dL_law_483 rfl rfl ?_
    refine dk_aald 103 486 (Or.inl rfl) dL_law_485 rfl (fun r_485 _ => ?_)
    refine dk_iload 488 12 dL_law_486 rfl rfl ?_
    refine dk_iald 489 dL_law_488 rfl (fun a_488 _ => ?_)
    refine dk_iload 491 13 dL_law_489 rfl rfl ?_
    refine dk_if_eq 498 494 dL_law_491 (by decide) rfl (fun _ => ?_) (fun _ => ?_)
    · refine dk_iconst 499 0 dL_law_498 rfl rfl ?_
      exact dk_less [some (.ref 1003000), some (.ref 0), some (.ref s2_468), some (.ref p3_41), some (.int s4_468), some (.int s5_468), none, none, some (.int s8_468), none, some (.ref s10_468), none, some (.int s12_468), some (.int t0_468), none, none, none] (And.intro rfl (And.intro rfl (And.intro rfl (And.intro rfl (And.intro rfl (And.intro rfl (And.intro rfl (And.intro rfl (And.intro rfl (And.intro rfl (trivial))))))))))) (dj_L_law_J499_41 N d Lc xs p3_41 K994 X hK994 hX s2_468 s4_468 s5_468 s8_468 s10_468 s12_468 t0_468 (0 : Int32) a_488 h)
    · refine dk_iconst 495 1 dL_law_494 rfl rfl ?_
      refine dk_goto 499 dL_law_495 (by decide) ?_
      exact dk_less [some (.ref 1003000), some (.ref 0), some (.ref s2_468), some (.ref p3_41), some (.int s4_468), some (.int s5_468), none, none, some (.int s8_468), none, some (.ref s10_468), none, some (.int s12_468), some (.int t0_468), none, none, none] (And.intro rfl (And.intro rfl (And.intro rfl (And.intro rfl (And.intro rfl (And.intro rfl (And.intro rfl (And.intro rfl (And.intro rfl (And.intro rfl (trivial))))))))))) (dj_L_law_J499_41 N d Lc xs p3_41 K994 X hK994 hX s2_468 s4_468 s5_468 s8_468 s10_468 s12_468 t0_468 (1 : Int32) a_488 h)

set_option maxRecDepth 100000 in
set_option maxHeartbeats 4000000 in
theorem dj_L_law_J450_41 (N d : Nat) (Lc : Nat) (xs : Nat → Int32) (p3_41 : Nat)  (K994 : Nat → DS → DA) (X : (Nat × Int32 × Int32) → DS → DA) (hK994 : ∀ (k2 : Nat) (h : DS), DOk (some (Lc, xs)) (d + 12) m_L_law 994 [none, some (.ref 0), some (.ref k2), none, none, none, none, none, none, none, none, none, none, none, none, none, none] [] h (K994 k2 h)) (hX : ∀ (a : (Nat × Int32 × Int32)) (h : DS), DOk (some (Lc, xs)) (d + 12) m_L_law 41 [some (.ref 1003000), some (.ref 0), some (.ref a.1), some (.ref p3_41), some (.int a.2.1), some (.int a.2.2), none, none, none, none, none, none, none, none, none, none, none] [] h (X a h)) (s2_450 : Nat) (s4_450 : Int32) (s5_450 : Int32) (s6_450 : Int32) (s8_450 : Int32) (s10_450 : Nat) (t0_450 : Int32) (h : DS) : DOk (some (Lc, xs)) (d + 12) m_L_law 450 [some (.ref 1003000), some (.ref 0), some (.ref s2_450), some (.ref p3_41), some (.int s4_450), some (.int s5_450), some (.int s6_450), none, some (.int s8_450), none, some (.ref s10_450), none, none, none, none, none, none] [.int t0_450] h (g_L_law_J450_41 N Lc xs p3_41 K994 X s2_450 s4_450 s5_450 s6_450 s8_450 s10_450 t0_450 h) := by
  unfold g_L_law_J450_41
  refine dk_istore 452 12 [some (.ref 1003000), some (.ref 0), some (.ref s2_450), some (.ref p3_41), some (.int s4_450), some (.int s5_450), some (.int s6_450), none, some (.int s8_450), none, some (.ref s10_450), none, some (.int t0_450), none, none, none, none] dL_law_450 rfl (by decide) rfl ?_
  refine dk_iload 454 6 dL_law_452 rfl rfl ?_
  refine dk_bipush 456 6 dL_law_454 rfl rfl ?_
  refine dk_ishr 457 dL_law_456 rfl ?_
  refine dk_iconst 458 1 dL_law_457 rfl rfl ?_
  refine dk_iand 459 dL_law_458 rfl ?_
  refine dk_iconst 460 1 dL_law_459 rfl rfl ?_
  refine dk_icmp_ne 467 463 dL_law_460 (by decide) rfl (fun _ => ?_) (fun _ => ?_)
  · refine dk_iconst 468 0 dL_law_467 rfl rfl ?_
    exact dk_less [some (.ref 1003000), some (.ref 0), some (.ref s2_450), some (.ref p3_41), some (.int s4_450), some (.int s5_450), none, none, some (.int s8_450), none, some (.ref s10_450), none, some (.int t0_450), none, none, none, none] (And.intro rfl (And.intro rfl (And.intro rfl (And.intro rfl (And.intro rfl (And.intro rfl (And.intro rfl (And.intro rfl (And.intro rfl (trivial)))))))))) (dj_L_law_J468_41 N d Lc xs p3_41 K994 X hK994 hX s2_450 s4_450 s5_450 s8_450 s10_450 t0_450 (0 : Int32) h)
  · refine dk_iconst 464 1 dL_law_463 rfl rfl ?_
    refine dk_goto 468 dL_law_464 (by decide) ?_
    exact dk_less [some (.ref 1003000), some (.ref 0), some (.ref s2_450), some (.ref p3_41), some (.int s4_450), some (.int s5_450), none, none, some (.int s8_450), none, some (.ref s10_450), none, some (.int t0_450), none, none, none, none] (And.intro rfl (And.intro rfl (And.intro rfl (And.intro rfl (And.intro rfl (And.intro rfl (And.intro rfl (And.intro rfl (And.intro rfl (trivial)))))))))) (dj_L_law_J468_41 N d Lc xs p3_41 K994 X hK994 hX s2_450 s4_450 s5_450 s8_450 s10_450 t0_450 (1 : Int32) h)

set_option maxRecDepth 100000 in
set_option maxHeartbeats 4000000 in
theorem dj_L_law_J413_41 (N d : Nat) (Lc : Nat) (xs : Nat → Int32) (p3_41 : Nat)  (K994 : Nat → DS → DA) (X : (Nat × Int32 × Int32) → DS → DA) (hK994 : ∀ (k2 : Nat) (h : DS), DOk (some (Lc, xs)) (d + 12) m_L_law 994 [none, some (.ref 0), some (.ref k2), none, none, none, none, none, none, none, none, none, none, none, none, none, none] [] h (K994 k2 h)) (hX : ∀ (a : (Nat × Int32 × Int32)) (h : DS), DOk (some (Lc, xs)) (d + 12) m_L_law 41 [some (.ref 1003000), some (.ref 0), some (.ref a.1), some (.ref p3_41), some (.int a.2.1), some (.int a.2.2), none, none, none, none, none, none, none, none, none, none, none] [] h (X a h)) (s2_413 : Nat) (s4_413 : Int32) (s5_413 : Int32) (s8_413 : Int32) (s10_413 : Nat) (s11_413 : Int32) (s12_413 : Int32) (h : DS) : DOk (some (Lc, xs)) (d + 12) m_L_law 413 [some (.ref 1003000), some (.ref 0), some (.ref s2_413), some (.ref p3_41), some (.int s4_413), some (.int s5_413), none, none, some (.int s8_413), none, some (.ref s10_413), some (.int s11_413), some (.int s12_413), none, none, none, none] [] h (g_L_law_J413_41 N Lc xs p3_41 K994 X s2_413 s4_413 s5_413 s8_413 s10_413 s11_413 s12_413 h) := by
  unfold g_L_law_J413_41
  refine dk_aload_n 414 1 dL_law_413 rfl rfl rfl ?_
  refine dk_iload 416 8 dL_law_414 rfl rfl ?_
  refine dk_iload 418 12 dL_law_416 rfl rfl ?_
  refine dk_callXV (np := 2) (M' := m_X11_pay) (As := [.int s8_413, .int s12_413]) (st := []) 421 dL_law_418 rfl rfl km_X11_pay ki_X11_pay kv_X11_pay ml_EncoresLaw_211 (by decide) rfl rfl rfl (fun k hk => by simp at hk) (Nat.le_of_ble_eq_true rfl) (c_X11_pay N (d + 7) s8_413 s12_413 h.1) (fun _ h => by cases h; exact pr_bool) (fun v_418 n_418 e_418 => ?_)
  generalize pat h n_418 = hh_418
  refine dk_gs (fun h_418 _ => ?_)
  show DOk _ _ _ _ _ (.int v_418 :: []) _ _
  refine dk_iload 423 11 dL_law_421 rfl rfl ?_
  refine dk_icmp_eq 428 426 dL_law_423 (by decide) rfl (fun _ => ?_) (fun _ => ?_)
  · refine dk_goto 917 dL_law_428 (by decide) ?_
    exact dk_less [some (.ref 1003000), some (.ref 0), some (.ref s2_413), some (.ref p3_41), some (.int s4_413), some (.int s5_413), none, none, none, none, some (.ref s10_413), some (.int s11_413), none, none, none, none, none] (And.intro rfl (And.intro rfl (And.intro rfl (And.intro rfl (And.intro rfl (And.intro rfl (And.intro rfl (And.intro rfl (trivial))))))))) (dj_L_law_J917_41 N d Lc xs p3_41 K994 X hK994 hX s2_413 s4_413 s5_413 s10_413 s11_413 h_418)
  · refine dk_iconst 427 0 dL_law_426 rfl rfl ?_
    exact dk_zretc dL_law_427 rfl rfl

set_option maxRecDepth 100000 in
set_option maxHeartbeats 4000000 in
theorem dj_L_law_J359_41 (N d : Nat) (Lc : Nat) (xs : Nat → Int32) (p3_41 : Nat)  (K994 : Nat → DS → DA) (X : (Nat × Int32 × Int32) → DS → DA) (hK994 : ∀ (k2 : Nat) (h : DS), DOk (some (Lc, xs)) (d + 12) m_L_law 994 [none, some (.ref 0), some (.ref k2), none, none, none, none, none, none, none, none, none, none, none, none, none, none] [] h (K994 k2 h)) (hX : ∀ (a : (Nat × Int32 × Int32)) (h : DS), DOk (some (Lc, xs)) (d + 12) m_L_law 41 [some (.ref 1003000), some (.ref 0), some (.ref a.1), some (.ref p3_41), some (.int a.2.1), some (.int a.2.2), none, none, none, none, none, none, none, none, none, none, none] [] h (X a h)) (s2_359 : Nat) (s4_359 : Int32) (s5_359 : Int32) (s8_359 : Int32) (s10_359 : Nat) (s12_359 : Int32) (t0_359 : Int32) (h : DS) : DOk (some (Lc, xs)) (d + 12) m_L_law 359 [some (.ref 1003000), some (.ref 0), some (.ref s2_359), some (.ref p3_41), some (.int s4_359), some (.int s5_359), none, none, some (.int s8_359), none, some (.ref s10_359), none, some (.int s12_359), none, none, none, none] [.int t0_359] h (g_L_law_J359_41 N Lc xs p3_41 K994 X s2_359 s4_359 s5_359 s8_359 s10_359 s12_359 t0_359 h) := by
  unfold g_L_law_J359_41
  refine dk_istore 361 11 [some (.ref 1003000), some (.ref 0), some (.ref s2_359), some (.ref p3_41), some (.int s4_359), some (.int s5_359), none, none, some (.int s8_359), none, some (.ref s10_359), some (.int t0_359), some (.int s12_359), none, none, none, none] dL_law_359 rfl (by decide) rfl ?_
  refine dk_iload 363 11 dL_law_361 rfl rfl ?_
  refine dk_if_eq 413 366 dL_law_363 (by decide) rfl (fun _ => ?_) (fun _ => ?_)
  · exact dk_less [some (.ref 1003000), some (.ref 0), some (.ref s2_359), some (.ref p3_41), some (.int s4_359), some (.int s5_359), none, none, some (.int s8_359), none, some (.ref s10_359), some (.int t0_359), some (.int s12_359), none, none, none, none] (And.intro rfl (And.intro rfl (And.intro rfl (And.intro rfl (And.intro rfl (And.intro rfl (And.intro rfl (And.intro rfl (And.intro rfl (And.intro rfl (trivial))))))))))) (dj_L_law_J413_41 N d Lc xs p3_41 K994 X hK994 hX s2_359 s4_359 s5_359 s8_359 s10_359 t0_359 s12_359 h)
  · refine dk_aload_n 367 2 dL_law_366 rfl rfl rfl ?_
    refine dk_getRN 370 dL_law_367 rfl rfl FN_EncoresLaw_147 (fun r_367 _ => ?_)
    refine dk_iload 372 8 dL_law_370 rfl rfl ?_
    refine dk_aald 103 373 (Or.inl rfl) dL_law_372 rfl (fun r_372 _ => ?_)
    refine dk_iconst 374 5 dL_law_373 rfl rfl ?_
    refine dk_bipush 376 99 dL_law_374 rfl rfl ?_
    refine dk_aload_n 377 2 dL_law_376 rfl rfl rfl ?_
    refine dk_getRN 380 dL_law_377 rfl rfl FN_EncoresLaw_147 (fun r_377 _ => ?_)
    refine dk_iload 382 8 dL_law_380 rfl rfl ?_
    refine dk_aald 103 383 (Or.inl rfl) dL_law_382 rfl (fun r_382 _ => ?_)
    refine dk_iconst 384 5 dL_law_383 rfl rfl ?_
    refine dk_iald 385 dL_law_384 rfl (fun a_384 _ => ?_)
    refine dk_iload 387 12 dL_law_385 rfl rfl ?_
    refine dk_iadd 388 dL_law_387 rfl ?_
    refine dk_min 391 dL_law_388 rfl rfl ml_EncoresLaw_8 (Nat.le_of_ble_eq_true rfl) ?_
    refine dk_bndI (fun a_388 => ?_)
    refine dk_iast 392 dL_law_391 rfl (fun h_391 _ => ?_)
    refine dk_aload_n 393 2 dL_law_392 rfl rfl rfl ?_
    refine dk_dup 394 dL_law_393 rfl rfl ?_
    refine dk_getIN 397 dL_law_394 rfl rfl FN_EncoresLaw_204 (fun a_394 _ => ?_)
    refine dk_iload 399 12 dL_law_397 rfl rfl ?_
    refine dk_isub 400 dL_law_399 rfl ?_
    refine dk_putIN 403 dL_law_400 rfl rfl FN_EncoresLaw_204 rfl pZ_12_3 rfl rfl (fun h_400 _ => ?_)
    refine dk_aload_n 404 2 dL_law_403 rfl rfl rfl ?_
    refine dk_iconst 405 3 dL_law_404 rfl rfl ?_
    refine dk_iload 407 8 dL_law_405 rfl rfl ?_
    refine dk_iload 409 12 dL_law_407 rfl rfl ?_
    refine dk_iconst 410 1 dL_law_409 rfl rfl ?_
    refine dk_callV (np := 4) (M' := m_X12_notes) (As := [.int 3, .int s8_359, .int s12_359, .int 1]) (st := []) 12 413 dL_law_410 rfl rfl km_X12_notes ki_X12_notes kv_X12_notes ml_EncoresLaw_207 (by decide) (by decide) rfl rfl rfl (Nat.le_of_ble_eq_true rfl) (dc_X12_notes N (d + 11) s2_359 (3 : Int32) s8_359 s12_359 (1 : Int32) h_400) (fun v_410 h_410 e_410 => ?_)
    show DOk _ _ _ _ _ [] _ _
    exact dk_less [some (.ref 1003000), some (.ref 0), some (.ref s2_359), some (.ref p3_41), some (.int s4_359), some (.int s5_359), none, none, some (.int s8_359), none, some (.ref s10_359), some (.int t0_359), some (.int s12_359), none, none, none, none] (And.intro rfl (And.intro rfl (And.intro rfl (And.intro rfl (And.intro rfl (And.intro rfl (And.intro rfl (And.intro rfl (And.intro rfl (And.intro rfl (trivial))))))))))) (dj_L_law_J413_41 N d Lc xs p3_41 K994 X hK994 hX s2_359 s4_359 s5_359 s8_359 s10_359 t0_359 s12_359 h_410)

set_option maxRecDepth 100000 in
set_option maxHeartbeats 4000000 in
theorem dj_L_law_J358_41 (N d : Nat) (Lc : Nat) (xs : Nat → Int32) (p3_41 : Nat)  (K994 : Nat → DS → DA) (X : (Nat × Int32 × Int32) → DS → DA) (hK994 : ∀ (k2 : Nat) (h : DS), DOk (some (Lc, xs)) (d + 12) m_L_law 994 [none, some (.ref 0), some (.ref k2), none, none, none, none, none, none, none, none, none, none, none, none, none, none] [] h (K994 k2 h)) (hX : ∀ (a : (Nat × Int32 × Int32)) (h : DS), DOk (some (Lc, xs)) (d + 12) m_L_law 41 [some (.ref 1003000), some (.ref 0), some (.ref a.1), some (.ref p3_41), some (.int a.2.1), some (.int a.2.2), none, none, none, none, none, none, none, none, none, none, none] [] h (X a h)) (s2_358 : Nat) (s4_358 : Int32) (s5_358 : Int32) (s8_358 : Int32) (s10_358 : Nat) (s12_358 : Int32) (h : DS) : DOk (some (Lc, xs)) (d + 12) m_L_law 358 [some (.ref 1003000), some (.ref 0), some (.ref s2_358), some (.ref p3_41), some (.int s4_358), some (.int s5_358), none, none, some (.int s8_358), none, some (.ref s10_358), none, some (.int s12_358), none, none, none, none] [] h (g_L_law_J358_41 N Lc xs p3_41 K994 X s2_358 s4_358 s5_358 s8_358 s10_358 s12_358 h) := by
  unfold g_L_law_J358_41
  refine dk_iconst 359 0 dL_law_358 rfl rfl ?_
  exact dk_less [some (.ref 1003000), some (.ref 0), some (.ref s2_358), some (.ref p3_41), some (.int s4_358), some (.int s5_358), none, none, some (.int s8_358), none, some (.ref s10_358), none, some (.int s12_358), none, none, none, none] (And.intro rfl (And.intro rfl (And.intro rfl (And.intro rfl (And.intro rfl (And.intro rfl (And.intro rfl (And.intro rfl (And.intro rfl (trivial)))))))))) (dj_L_law_J359_41 N d Lc xs p3_41 K994 X hK994 hX s2_358 s4_358 s5_358 s8_358 s10_358 s12_358 (0 : Int32) h)

set_option maxRecDepth 100000 in
set_option maxHeartbeats 4000000 in
theorem dj_L_law_J295_41 (N d : Nat) (Lc : Nat) (xs : Nat → Int32) (p3_41 : Nat)  (K994 : Nat → DS → DA) (X : (Nat × Int32 × Int32) → DS → DA) (hK994 : ∀ (k2 : Nat) (h : DS), DOk (some (Lc, xs)) (d + 12) m_L_law 994 [none, some (.ref 0), some (.ref k2), none, none, none, none, none, none, none, none, none, none, none, none, none, none] [] h (K994 k2 h)) (hX : ∀ (a : (Nat × Int32 × Int32)) (h : DS), DOk (some (Lc, xs)) (d + 12) m_L_law 41 [some (.ref 1003000), some (.ref 0), some (.ref a.1), some (.ref p3_41), some (.int a.2.1), some (.int a.2.2), none, none, none, none, none, none, none, none, none, none, none] [] h (X a h)) (s2_295 : Nat) (s4_295 : Int32) (s5_295 : Int32) (s9_295 : Int32) (s10_295 : Nat) (s11_295 : Int32) (t0_295 : Int32) (h : DS) : DOk (some (Lc, xs)) (d + 12) m_L_law 295 [some (.ref 1003000), some (.ref 0), some (.ref s2_295), some (.ref p3_41), some (.int s4_295), some (.int s5_295), none, none, none, some (.int s9_295), some (.ref s10_295), some (.int s11_295), none, none, none, none, none] [.int t0_295] h (g_L_law_J295_41 N Lc xs p3_41 K994 X s2_295 s4_295 s5_295 s9_295 s10_295 s11_295 t0_295 h) := by
  unfold g_L_law_J295_41
  refine dk_istore 297 12 [some (.ref 1003000), some (.ref 0), some (.ref s2_295), some (.ref p3_41), some (.int s4_295), some (.int s5_295), none, none, none, some (.int s9_295), some (.ref s10_295), some (.int s11_295), some (.int t0_295), none, none, none, none] dL_law_295 rfl (by decide) rfl ?_
  refine dk_aload_n 298 1 dL_law_297 rfl rfl rfl ?_
  refine dk_iload 300 9 dL_law_298 rfl rfl ?_
  refine dk_callXV (np := 1) (M' := m_X11_perform) (As := [.int s9_295]) (st := []) 303 dL_law_300 rfl rfl km_X11_perform ki_X11_perform kv_X11_perform ml_EncoresLaw_201 (by decide) rfl rfl rfl (fun k hk => by simp at hk) (Nat.le_of_ble_eq_true rfl) (c_X11_perform N (d + 5) s9_295 h.1) (fun _ h => by cases h; exact pr_int) (fun v_300 n_300 e_300 => ?_)
  generalize pat h n_300 = hh_300
  refine dk_gs (fun h_300 _ => ?_)
  show DOk _ _ _ _ _ (.int v_300 :: []) _ _
  refine dk_iload 305 12 dL_law_303 rfl rfl ?_
  refine dk_icmp_eq 310 308 dL_law_305 (by decide) rfl (fun _ => ?_) (fun _ => ?_)
  · refine dk_goto 917 dL_law_310 (by decide) ?_
    exact dk_less [some (.ref 1003000), some (.ref 0), some (.ref s2_295), some (.ref p3_41), some (.int s4_295), some (.int s5_295), none, none, none, none, some (.ref s10_295), some (.int s11_295), none, none, none, none, none] (And.intro rfl (And.intro rfl (And.intro rfl (And.intro rfl (And.intro rfl (And.intro rfl (And.intro rfl (And.intro rfl (trivial))))))))) (dj_L_law_J917_41 N d Lc xs p3_41 K994 X hK994 hX s2_295 s4_295 s5_295 s10_295 s11_295 h_300)
  · refine dk_iconst 309 0 dL_law_308 rfl rfl ?_
    exact dk_zretc dL_law_309 rfl rfl

set_option maxRecDepth 100000 in
set_option maxHeartbeats 4000000 in
theorem dj_L_law_J277_41 (N d : Nat) (Lc : Nat) (xs : Nat → Int32) (p3_41 : Nat)  (K994 : Nat → DS → DA) (X : (Nat × Int32 × Int32) → DS → DA) (hK994 : ∀ (k2 : Nat) (h : DS), DOk (some (Lc, xs)) (d + 12) m_L_law 994 [none, some (.ref 0), some (.ref k2), none, none, none, none, none, none, none, none, none, none, none, none, none, none] [] h (K994 k2 h)) (hX : ∀ (a : (Nat × Int32 × Int32)) (h : DS), DOk (some (Lc, xs)) (d + 12) m_L_law 41 [some (.ref 1003000), some (.ref 0), some (.ref a.1), some (.ref p3_41), some (.int a.2.1), some (.int a.2.2), none, none, none, none, none, none, none, none, none, none, none] [] h (X a h)) (s2_277 : Nat) (s4_277 : Int32) (s5_277 : Int32) (s9_277 : Int32) (s10_277 : Nat) (t0_277 : Int32) (h : DS) : DOk (some (Lc, xs)) (d + 12) m_L_law 277 [some (.ref 1003000), some (.ref 0), some (.ref s2_277), some (.ref p3_41), some (.int s4_277), some (.int s5_277), none, none, none, some (.int s9_277), some (.ref s10_277), none, none, none, none, none, none] [.int t0_277] h (g_L_law_J277_41 N Lc xs p3_41 K994 X s2_277 s4_277 s5_277 s9_277 s10_277 t0_277 h) := by
  unfold g_L_law_J277_41
  refine dk_istore 279 11 [some (.ref 1003000), some (.ref 0), some (.ref s2_277), some (.ref p3_41), some (.int s4_277), some (.int s5_277), none, none, none, some (.int s9_277), some (.ref s10_277), some (.int t0_277), none, none, none, none, none] dL_law_277 rfl (by decide) rfl ?_
  refine dk_iload 281 11 dL_law_279 rfl rfl ?_
  refine dk_if_eq 294 284 dL_law_281 (by decide) rfl (fun _ => ?_) (fun _ => ?_)
  · refine dk_iconst 295 (-1) dL_law_294 rfl rfl ?_
    exact dk_less [some (.ref 1003000), some (.ref 0), some (.ref s2_277), some (.ref p3_41), some (.int s4_277), some (.int s5_277), none, none, none, some (.int s9_277), some (.ref s10_277), some (.int t0_277), none, none, none, none, none] (And.intro rfl (And.intro rfl (And.intro rfl (And.intro rfl (And.intro rfl (And.intro rfl (And.intro rfl (And.intro rfl (And.intro rfl (trivial)))))))))) (dj_L_law_J295_41 N d Lc xs p3_41 K994 X hK994 hX s2_277 s4_277 s5_277 s9_277 s10_277 t0_277 (-1 : Int32) h)
  · refine dk_aload_n 285 2 dL_law_284 rfl rfl rfl ?_
    refine dk_iload 287 9 dL_law_285 rfl rfl ?_
    refine dk_iconst 288 1 dL_law_287 rfl rfl ?_
    refine dk_callV (np := 2) (M' := m_X12_does) (As := [.int s9_277, .int 1]) (st := []) 12 291 dL_law_288 rfl rfl km_X12_does ki_X12_does kv_X12_does ml_EncoresLaw_197 (by decide) (by decide) rfl rfl rfl (Nat.le_of_ble_eq_true rfl) (dc_X12_does N (d + 7) s2_277 s9_277 (1 : Int32) h) (fun v_288 h_288 e_288 => ?_)
    show DOk _ _ _ _ _ (.int v_288 :: []) _ _
    refine dk_goto 295 dL_law_291 (by decide) ?_
    exact dk_less [some (.ref 1003000), some (.ref 0), some (.ref s2_277), some (.ref p3_41), some (.int s4_277), some (.int s5_277), none, none, none, some (.int s9_277), some (.ref s10_277), some (.int t0_277), none, none, none, none, none] (And.intro rfl (And.intro rfl (And.intro rfl (And.intro rfl (And.intro rfl (And.intro rfl (And.intro rfl (And.intro rfl (And.intro rfl (trivial)))))))))) (dj_L_law_J295_41 N d Lc xs p3_41 K994 X hK994 hX s2_277 s4_277 s5_277 s9_277 s10_277 t0_277 v_288 h_288)

set_option maxRecDepth 100000 in
set_option maxHeartbeats 4000000 in
theorem dj_L_law_J276_41 (N d : Nat) (Lc : Nat) (xs : Nat → Int32) (p3_41 : Nat)  (K994 : Nat → DS → DA) (X : (Nat × Int32 × Int32) → DS → DA) (hK994 : ∀ (k2 : Nat) (h : DS), DOk (some (Lc, xs)) (d + 12) m_L_law 994 [none, some (.ref 0), some (.ref k2), none, none, none, none, none, none, none, none, none, none, none, none, none, none] [] h (K994 k2 h)) (hX : ∀ (a : (Nat × Int32 × Int32)) (h : DS), DOk (some (Lc, xs)) (d + 12) m_L_law 41 [some (.ref 1003000), some (.ref 0), some (.ref a.1), some (.ref p3_41), some (.int a.2.1), some (.int a.2.2), none, none, none, none, none, none, none, none, none, none, none] [] h (X a h)) (s2_276 : Nat) (s4_276 : Int32) (s5_276 : Int32) (s9_276 : Int32) (s10_276 : Nat) (h : DS) : DOk (some (Lc, xs)) (d + 12) m_L_law 276 [some (.ref 1003000), some (.ref 0), some (.ref s2_276), some (.ref p3_41), some (.int s4_276), some (.int s5_276), none, none, none, some (.int s9_276), some (.ref s10_276), none, none, none, none, none, none] [] h (g_L_law_J276_41 N Lc xs p3_41 K994 X s2_276 s4_276 s5_276 s9_276 s10_276 h) := by
  unfold g_L_law_J276_41
  refine dk_iconst 277 0 dL_law_276 rfl rfl ?_
  exact dk_less [some (.ref 1003000), some (.ref 0), some (.ref s2_276), some (.ref p3_41), some (.int s4_276), some (.int s5_276), none, none, none, some (.int s9_276), some (.ref s10_276), none, none, none, none, none, none] (And.intro rfl (And.intro rfl (And.intro rfl (And.intro rfl (And.intro rfl (And.intro rfl (And.intro rfl (And.intro rfl (trivial))))))))) (dj_L_law_J277_41 N d Lc xs p3_41 K994 X hK994 hX s2_276 s4_276 s5_276 s9_276 s10_276 (0 : Int32) h)

set_option maxRecDepth 100000 in
set_option maxHeartbeats 4000000 in
theorem dj_L_law_J190_147 (N d : Nat) (Lc : Nat) (xs : Nat → Int32) (p2_147 : Nat) (p3_147 : Nat) (p5_147 : Int32) (p10_147 : Nat) (p11_147 : Int32) (p12_147 : Int32)  (K217 : Int32 → Int32 → DS → DA) (X : (Int32 × Int32 × Int32) → DS → DA) (hK217 : ∀ (k4 : Int32) (k13 : Int32) (h : DS), DOk (some (Lc, xs)) (d + 12) m_L_law 217 [some (.ref 1003000), some (.ref 0), some (.ref p2_147), some (.ref p3_147), some (.int k4), some (.int p5_147), none, none, none, none, some (.ref p10_147), some (.int p11_147), some (.int p12_147), some (.int k13), none, none, none] [] h (K217 k4 k13 h)) (hX : ∀ (a : (Int32 × Int32 × Int32)) (h : DS), DOk (some (Lc, xs)) (d + 12) m_L_law 147 [some (.ref 1003000), some (.ref 0), some (.ref p2_147), some (.ref p3_147), some (.int a.1), some (.int p5_147), none, none, none, none, some (.ref p10_147), some (.int p11_147), some (.int p12_147), some (.int a.2.1), some (.int a.2.2), none, none] [] h (X a h)) (s4_190 : Int32) (s13_190 : Int32) (s14_190 : Int32) (h : DS) : DOk (some (Lc, xs)) (d + 12) m_L_law 190 [some (.ref 1003000), some (.ref 0), some (.ref p2_147), some (.ref p3_147), some (.int s4_190), some (.int p5_147), none, none, none, none, some (.ref p10_147), some (.int p11_147), some (.int p12_147), some (.int s13_190), some (.int s14_190), none, none] [] h (g_L_law_J190_147 N Lc xs p2_147 p3_147 p5_147 p10_147 p11_147 p12_147 K217 X s4_190 s13_190 s14_190 h) := by
  unfold g_L_law_J190_147
  refine dk_aload_n 191 3 dL_law_190 rfl rfl rfl ?_
  refine dk_iload 193 4 dL_law_191 rfl rfl ?_
  refine dk_iinc 196 4 1 [some (.ref 1003000), some (.ref 0), some (.ref p2_147), some (.ref p3_147), some (.int (s4_190 + 1)), some (.int p5_147), none, none, none, none, some (.ref p10_147), some (.int p11_147), some (.int p12_147), some (.int s13_190), some (.int s14_190), none, none] dL_law_193 rfl rfl rfl (by decide) rfl ?_
  refine dk_aload_n 197 2 dL_law_196 rfl rfl rfl ?_
  refine dk_callV (np := 0) (M' := m_X12_copy) (As := []) (st := [.int s4_190, .ref p3_147]) 12 200 dL_law_197 rfl rfl km_X12_copy ki_X12_copy kv_X12_copy ml_EncoresLaw_183 (by decide) (by decide) rfl rfl rfl (Nat.le_of_ble_eq_true rfl) (dc_X12_copy N (d + 9) p2_147 h) (fun v_197 h_197 e_197 => ?_)
  show DOk _ _ _ _ _ ((if v_197 = -1 then Value.null else .ref v_197.toNatClampNeg) :: [.int s4_190, .ref p3_147]) _ _
  refine dk_rr (fun r_197 => ?_)
  refine dk_aast 104 201 (Or.inr rfl) dL_law_200 rfl (fun h_200 _ => ?_)
  refine dk_iload 203 13 dL_law_201 rfl rfl ?_
  refine dk_aload_n 204 2 dL_law_203 rfl rfl rfl ?_
  refine dk_iconst 205 1 dL_law_204 rfl rfl ?_
  refine dk_callV (np := 1) (M' := m_X12_passes) (As := [.int 1]) (st := [.int s13_190]) 12 208 dL_law_205 rfl rfl km_X12_passes ki_X12_passes kv_X12_passes ml_EncoresLaw_187 (by decide) (by decide) rfl rfl rfl (Nat.le_of_ble_eq_true rfl) (dc_X12_passes N (d + 6) p2_147 (1 : Int32) h_200) (fun v_205 h_205 e_205 => ?_)
  show DOk _ _ _ _ _ (.int v_205 :: [.int s13_190]) _ _
  refine dk_iadd 209 dL_law_208 rfl ?_
  refine dk_istore 211 13 [some (.ref 1003000), some (.ref 0), some (.ref p2_147), some (.ref p3_147), some (.int (s4_190 + 1)), some (.int p5_147), none, none, none, none, some (.ref p10_147), some (.int p11_147), some (.int p12_147), some (.int (s13_190 + v_205)), some (.int s14_190), none, none] dL_law_209 rfl (by decide) rfl ?_
  refine dk_iinc 214 14 1 [some (.ref 1003000), some (.ref 0), some (.ref p2_147), some (.ref p3_147), some (.int (s4_190 + 1)), some (.int p5_147), none, none, none, none, some (.ref p10_147), some (.int p11_147), some (.int p12_147), some (.int (s13_190 + v_205)), some (.int (s14_190 + 1)), none, none] dL_law_211 rfl rfl rfl (by decide) rfl ?_
  refine dk_goto 147 dL_law_214 (by decide) ?_
  exact dk_less [some (.ref 1003000), some (.ref 0), some (.ref p2_147), some (.ref p3_147), some (.int (s4_190 + 1)), some (.int p5_147), none, none, none, none, some (.ref p10_147), some (.int p11_147), some (.int p12_147), some (.int (s13_190 + v_205)), some (.int (s14_190 + 1)), none, none] (And.intro rfl (And.intro rfl (And.intro rfl (And.intro rfl (And.intro rfl (And.intro rfl (And.intro rfl (And.intro rfl (And.intro rfl (And.intro rfl (And.intro rfl (trivial)))))))))))) (hX ((s4_190 + 1), (s13_190 + v_205), (s14_190 + 1)) h_205)

set_option maxRecDepth 100000 in
set_option maxHeartbeats 4000000 in
theorem db_L_law_L164 (N d : Nat) (Lc : Nat) (xs : Nat → Int32) (p2_164 : Nat) (p3_164 : Nat) (p4_164 : Int32) (p5_164 : Int32) (p10_164 : Nat) (p11_164 : Int32) (p12_164 : Int32) (p13_164 : Int32) (p14_164 : Int32) (K187 : DS → DA) (hK187 : ∀  (h : DS), DOk (some (Lc, xs)) (d + 12) m_L_law 187 [some (.ref 1003000), some (.ref 0), some (.ref p2_164), some (.ref p3_164), some (.int p4_164), some (.int p5_164), none, none, none, none, some (.ref p10_164), some (.int p11_164), some (.int p12_164), some (.int p13_164), some (.int p14_164), none, none] [] h (K187 h)) (X : Int32 → DS → DA) (hX : ∀ (a : Int32) (h : DS), DOk (some (Lc, xs)) (d + 12) m_L_law 164 [some (.ref 1003000), some (.ref 0), some (.ref p2_164), some (.ref p3_164), some (.int p4_164), some (.int p5_164), none, none, none, none, some (.ref p10_164), some (.int p11_164), some (.int p12_164), some (.int p13_164), some (.int p14_164), some (.int a), none] [] h (X a h)) (s15_164 : Int32) (h : DS) : DOk (some (Lc, xs)) (d + 12) m_L_law 164 [some (.ref 1003000), some (.ref 0), some (.ref p2_164), some (.ref p3_164), some (.int p4_164), some (.int p5_164), none, none, none, none, some (.ref p10_164), some (.int p11_164), some (.int p12_164), some (.int p13_164), some (.int p14_164), some (.int s15_164), none] [] h (g_L_law_L164 N Lc xs p2_164 p3_164 p4_164 p5_164 p10_164 p11_164 p12_164 p13_164 p14_164 K187 X s15_164 h) := by
  unfold g_L_law_L164
  refine dk_iload 166 15 dL_law_164 rfl rfl ?_
  refine dk_bipush 168 6 dL_law_166 rfl rfl ?_
  refine dk_icmp_ge 187 171 dL_law_168 (by decide) rfl (fun _ => ?_) (fun _ => ?_)
  · exact dk_less [some (.ref 1003000), some (.ref 0), some (.ref p2_164), some (.ref p3_164), some (.int p4_164), some (.int p5_164), none, none, none, none, some (.ref p10_164), some (.int p11_164), some (.int p12_164), some (.int p13_164), some (.int p14_164), none, none] (And.intro rfl (And.intro rfl (And.intro rfl (And.intro rfl (And.intro rfl (And.intro rfl (And.intro rfl (And.intro rfl (And.intro rfl (And.intro rfl (And.intro rfl (trivial)))))))))))) (hK187 h)
  · refine dk_aload_n 172 3 dL_law_171 rfl rfl rfl ?_
    refine dk_iload 174 15 dL_law_172 rfl rfl ?_
    refine dk_iconst 175 1 dL_law_174 rfl rfl ?_
    refine dk_isub 176 dL_law_175 rfl ?_
    refine dk_aload_n 177 3 dL_law_176 rfl rfl rfl ?_
    refine dk_iload 179 15 dL_law_177 rfl rfl ?_
    refine dk_aald 104 180 (Or.inr rfl) dL_law_179 rfl (fun r_179 _ => ?_)
    refine dk_aast 104 181 (Or.inr rfl) dL_law_180 rfl (fun h_180 _ => ?_)
    refine dk_iinc 184 15 1 [some (.ref 1003000), some (.ref 0), some (.ref p2_164), some (.ref p3_164), some (.int p4_164), some (.int p5_164), none, none, none, none, some (.ref p10_164), some (.int p11_164), some (.int p12_164), some (.int p13_164), some (.int p14_164), some (.int (s15_164 + 1)), none] dL_law_181 rfl rfl rfl (by decide) rfl ?_
    refine dk_goto 164 dL_law_184 (by decide) ?_
    exact dk_less [some (.ref 1003000), some (.ref 0), some (.ref p2_164), some (.ref p3_164), some (.int p4_164), some (.int p5_164), none, none, none, none, some (.ref p10_164), some (.int p11_164), some (.int p12_164), some (.int p13_164), some (.int p14_164), some (.int (s15_164 + 1)), none] (And.intro rfl (And.intro rfl (And.intro rfl (And.intro rfl (And.intro rfl (And.intro rfl (And.intro rfl (And.intro rfl (And.intro rfl (And.intro rfl (And.intro rfl (And.intro rfl (trivial))))))))))))) (hX ((s15_164 + 1)) h_180)

set_option maxRecDepth 100000 in
set_option maxHeartbeats 4000000 in
theorem dl_L_law_L164 (N d : Nat) (Lc : Nat) (xs : Nat → Int32) (p2_164 : Nat) (p3_164 : Nat) (p4_164 : Int32) (p5_164 : Int32) (p10_164 : Nat) (p11_164 : Int32) (p12_164 : Int32) (p13_164 : Int32) (p14_164 : Int32) (K187 : DS → DA) (hK187 : ∀  (h : DS), DOk (some (Lc, xs)) (d + 12) m_L_law 187 [some (.ref 1003000), some (.ref 0), some (.ref p2_164), some (.ref p3_164), some (.int p4_164), some (.int p5_164), none, none, none, none, some (.ref p10_164), some (.int p11_164), some (.int p12_164), some (.int p13_164), some (.int p14_164), none, none] [] h (K187 h)) : ∀ (n : Nat) (a : Int32) (h : DS), DOk (some (Lc, xs)) (d + 12) m_L_law 164 [some (.ref 1003000), some (.ref 0), some (.ref p2_164), some (.ref p3_164), some (.int p4_164), some (.int p5_164), none, none, none, none, some (.ref p10_164), some (.int p11_164), some (.int p12_164), some (.int p13_164), some (.int p14_164), some (.int a), none] [] h (jt (fun Y a hz => g_L_law_L164 N Lc xs p2_164 p3_164 p4_164 p5_164 p10_164 p11_164 p12_164 p13_164 p14_164 K187 Y a hz) n a h) :=
  dk_jt (fun a => [some (.ref 1003000), some (.ref 0), some (.ref p2_164), some (.ref p3_164), some (.int p4_164), some (.int p5_164), none, none, none, none, some (.ref p10_164), some (.int p11_164), some (.int p12_164), some (.int p13_164), some (.int p14_164), some (.int a), none]) (fun X hX a h => db_L_law_L164 N d Lc xs p2_164 p3_164 p4_164 p5_164 p10_164 p11_164 p12_164 p13_164 p14_164 K187 hK187 X hX a h)

set_option maxRecDepth 100000 in
set_option maxHeartbeats 4000000 in
theorem db_L_law_L147 (N d : Nat) (Lc : Nat) (xs : Nat → Int32) (p2_147 : Nat) (p3_147 : Nat) (p5_147 : Int32) (p10_147 : Nat) (p11_147 : Int32) (p12_147 : Int32) (K217 : Int32 → Int32 → DS → DA) (hK217 : ∀ (k4 : Int32) (k13 : Int32) (h : DS), DOk (some (Lc, xs)) (d + 12) m_L_law 217 [some (.ref 1003000), some (.ref 0), some (.ref p2_147), some (.ref p3_147), some (.int k4), some (.int p5_147), none, none, none, none, some (.ref p10_147), some (.int p11_147), some (.int p12_147), some (.int k13), none, none, none] [] h (K217 k4 k13 h)) (X : (Int32 × Int32 × Int32) → DS → DA) (hX : ∀ (a : (Int32 × Int32 × Int32)) (h : DS), DOk (some (Lc, xs)) (d + 12) m_L_law 147 [some (.ref 1003000), some (.ref 0), some (.ref p2_147), some (.ref p3_147), some (.int a.1), some (.int p5_147), none, none, none, none, some (.ref p10_147), some (.int p11_147), some (.int p12_147), some (.int a.2.1), some (.int a.2.2), none, none] [] h (X a h)) (s4_147 : Int32) (s13_147 : Int32) (s14_147 : Int32) (h : DS) : DOk (some (Lc, xs)) (d + 12) m_L_law 147 [some (.ref 1003000), some (.ref 0), some (.ref p2_147), some (.ref p3_147), some (.int s4_147), some (.int p5_147), none, none, none, none, some (.ref p10_147), some (.int p11_147), some (.int p12_147), some (.int s13_147), some (.int s14_147), none, none] [] h (g_L_law_L147 N Lc xs p2_147 p3_147 p5_147 p10_147 p11_147 p12_147 K217 X s4_147 s13_147 s14_147 h) := by
  unfold g_L_law_L147
  refine dk_iload 149 14 dL_law_147 rfl rfl ?_
  refine dk_iload 151 12 dL_law_149 rfl rfl ?_
  refine dk_icmp_ge 217 154 dL_law_151 (by decide) rfl (fun _ => ?_) (fun _ => ?_)
  · exact dk_less [some (.ref 1003000), some (.ref 0), some (.ref p2_147), some (.ref p3_147), some (.int s4_147), some (.int p5_147), none, none, none, none, some (.ref p10_147), some (.int p11_147), some (.int p12_147), some (.int s13_147), none, none, none] (And.intro rfl (And.intro rfl (And.intro rfl (And.intro rfl (And.intro rfl (And.intro rfl (And.intro rfl (And.intro rfl (And.intro rfl (And.intro rfl (trivial))))))))))) (hK217 s4_147 s13_147 h)
  · refine dk_iload 156 4 dL_law_154 rfl rfl ?_
    refine dk_bipush 158 6 dL_law_156 rfl rfl ?_
    refine dk_icmp_ne 190 161 dL_law_158 (by decide) rfl (fun _ => ?_) (fun _ => ?_)
    · exact dk_less [some (.ref 1003000), some (.ref 0), some (.ref p2_147), some (.ref p3_147), some (.int s4_147), some (.int p5_147), none, none, none, none, some (.ref p10_147), some (.int p11_147), some (.int p12_147), some (.int s13_147), some (.int s14_147), none, none] (And.intro rfl (And.intro rfl (And.intro rfl (And.intro rfl (And.intro rfl (And.intro rfl (And.intro rfl (And.intro rfl (And.intro rfl (And.intro rfl (And.intro rfl (trivial)))))))))))) (dj_L_law_J190_147 N d Lc xs p2_147 p3_147 p5_147 p10_147 p11_147 p12_147 K217 X hK217 hX s4_147 s13_147 s14_147 h)
    · refine dk_iconst 162 1 dL_law_161 rfl rfl ?_
      refine dk_istore 164 15 [some (.ref 1003000), some (.ref 0), some (.ref p2_147), some (.ref p3_147), some (.int s4_147), some (.int p5_147), none, none, none, none, some (.ref p10_147), some (.int p11_147), some (.int p12_147), some (.int s13_147), some (.int s14_147), some (.int 1), none] dL_law_162 rfl (by decide) rfl ?_
      refine dk_less [some (.ref 1003000), some (.ref 0), some (.ref p2_147), some (.ref p3_147), some (.int s4_147), some (.int p5_147), none, none, none, none, some (.ref p10_147), some (.int p11_147), some (.int p12_147), some (.int s13_147), some (.int s14_147), some (.int 1), none] (And.intro rfl (And.intro rfl (And.intro rfl (And.intro rfl (And.intro rfl (And.intro rfl (And.intro rfl (And.intro rfl (And.intro rfl (And.intro rfl (And.intro rfl (And.intro rfl (trivial))))))))))))) ?_
      exact dl_L_law_L164 N d Lc xs p2_147 p3_147 s4_147 p5_147 p10_147 p11_147 p12_147 s13_147 s14_147 (fun hk187 => g_L_law_J190_147 N Lc xs p2_147 p3_147 p5_147 p10_147 p11_147 p12_147 K217 X (s4_147 + (-1)) s13_147 s14_147 hk187) (fun hk187 => by
          refine dk_iinc 190 4 (-1) [some (.ref 1003000), some (.ref 0), some (.ref p2_147), some (.ref p3_147), some (.int (s4_147 + (-1))), some (.int p5_147), none, none, none, none, some (.ref p10_147), some (.int p11_147), some (.int p12_147), some (.int s13_147), some (.int s14_147), none, none] dL_law_187 rfl rfl rfl (by decide) rfl ?_
          exact dk_less [some (.ref 1003000), some (.ref 0), some (.ref p2_147), some (.ref p3_147), some (.int (s4_147 + (-1))), some (.int p5_147), none, none, none, none, some (.ref p10_147), some (.int p11_147), some (.int p12_147), some (.int s13_147), some (.int s14_147), none, none] (And.intro rfl (And.intro rfl (And.intro rfl (And.intro rfl (And.intro rfl (And.intro rfl (And.intro rfl (And.intro rfl (And.intro rfl (And.intro rfl (And.intro rfl (trivial)))))))))))) (dj_L_law_J190_147 N d Lc xs p2_147 p3_147 p5_147 p10_147 p11_147 p12_147 K217 X hK217 hX (s4_147 + (-1)) s13_147 s14_147 hk187)) N (1) h

set_option maxRecDepth 100000 in
set_option maxHeartbeats 4000000 in
theorem dl_L_law_L147 (N d : Nat) (Lc : Nat) (xs : Nat → Int32) (p2_147 : Nat) (p3_147 : Nat) (p5_147 : Int32) (p10_147 : Nat) (p11_147 : Int32) (p12_147 : Int32) (K217 : Int32 → Int32 → DS → DA) (hK217 : ∀ (k4 : Int32) (k13 : Int32) (h : DS), DOk (some (Lc, xs)) (d + 12) m_L_law 217 [some (.ref 1003000), some (.ref 0), some (.ref p2_147), some (.ref p3_147), some (.int k4), some (.int p5_147), none, none, none, none, some (.ref p10_147), some (.int p11_147), some (.int p12_147), some (.int k13), none, none, none] [] h (K217 k4 k13 h)) : ∀ (n : Nat) (a : (Int32 × Int32 × Int32)) (h : DS), DOk (some (Lc, xs)) (d + 12) m_L_law 147 [some (.ref 1003000), some (.ref 0), some (.ref p2_147), some (.ref p3_147), some (.int a.1), some (.int p5_147), none, none, none, none, some (.ref p10_147), some (.int p11_147), some (.int p12_147), some (.int a.2.1), some (.int a.2.2), none, none] [] h (jt (fun Y a hz => g_L_law_L147 N Lc xs p2_147 p3_147 p5_147 p10_147 p11_147 p12_147 K217 Y a.1 a.2.1 a.2.2 hz) n a h) :=
  dk_jt (fun a => [some (.ref 1003000), some (.ref 0), some (.ref p2_147), some (.ref p3_147), some (.int a.1), some (.int p5_147), none, none, none, none, some (.ref p10_147), some (.int p11_147), some (.int p12_147), some (.int a.2.1), some (.int a.2.2), none, none]) (fun X hX a h => db_L_law_L147 N d Lc xs p2_147 p3_147 p5_147 p10_147 p11_147 p12_147 K217 hK217 X hX a.1 a.2.1 a.2.2 h)

set_option maxRecDepth 100000 in
set_option maxHeartbeats 4000000 in
theorem db_L_law_L41 (N d : Nat) (Lc : Nat) (xs : Nat → Int32) (p3_41 : Nat) (K994 : Nat → DS → DA) (hK994 : ∀ (k2 : Nat) (h : DS), DOk (some (Lc, xs)) (d + 12) m_L_law 994 [none, some (.ref 0), some (.ref k2), none, none, none, none, none, none, none, none, none, none, none, none, none, none] [] h (K994 k2 h)) (X : (Nat × Int32 × Int32) → DS → DA) (hX : ∀ (a : (Nat × Int32 × Int32)) (h : DS), DOk (some (Lc, xs)) (d + 12) m_L_law 41 [some (.ref 1003000), some (.ref 0), some (.ref a.1), some (.ref p3_41), some (.int a.2.1), some (.int a.2.2), none, none, none, none, none, none, none, none, none, none, none] [] h (X a h)) (s2_41 : Nat) (s4_41 : Int32) (s5_41 : Int32) (h : DS) : DOk (some (Lc, xs)) (d + 12) m_L_law 41 [some (.ref 1003000), some (.ref 0), some (.ref s2_41), some (.ref p3_41), some (.int s4_41), some (.int s5_41), none, none, none, none, none, none, none, none, none, none, none] [] h (g_L_law_L41 N Lc xs p3_41 K994 X s2_41 s4_41 s5_41 h) := by
  unfold g_L_law_L41
  refine dk_iload 43 5 dL_law_41 rfl rfl ?_
  refine dk_bipush 45 22 dL_law_43 rfl rfl ?_
  refine dk_icmp_ge 994 48 dL_law_45 (by decide) rfl (fun _ => ?_) (fun _ => ?_)
  · exact dk_less [none, some (.ref 0), some (.ref s2_41), none, none, none, none, none, none, none, none, none, none, none, none, none, none] (And.intro rfl (And.intro rfl (trivial))) (hK994 s2_41 h)
  · refine dk_aload_n 49 0 dL_law_48 rfl rfl rfl ?_
    refine dk_bipush 51 6 dL_law_49 rfl rfl ?_
    refine dk_iload 53 5 dL_law_51 rfl rfl ?_
    refine dk_bipush 55 12 dL_law_53 rfl rfl ?_
    refine dk_iremc 56 dL_law_55 rfl (by decide) ?_
    refine dk_iadd 57 dL_law_56 rfl ?_
    refine dk_callS (np := 2) (M' := m_L_cell) (As := [.ref 1003000, .int ((6 : Int32) + (irm s5_41 (12 : Int32)))]) (st := []) 60 dL_law_57 rfl rfl km_L_cell ks_L_cell ml_EncoresLaw_124 (by decide) rfl rfl (Nat.le_of_ble_eq_true rfl) (dc_L_cell N (d + 11) Lc xs ((6 : Int32) + (irm s5_41 (12 : Int32))) h) (fun v_57 h_57 e_57 => ?_)
    show DOk _ _ _ _ _ (.int v_57 :: []) _ _
    refine dk_iload 62 5 dL_law_60 rfl rfl ?_
    refine dk_bipush 64 12 dL_law_62 rfl rfl ?_
    refine dk_idivc 65 dL_law_64 rfl (by decide) ?_
    refine dk_iconst 66 1 dL_law_65 rfl rfl ?_
    refine dk_iadd 67 dL_law_66 rfl ?_
    refine dk_imul 68 dL_law_67 rfl ?_
    refine dk_sipush 71 227 dL_law_68 rfl rfl ?_
    refine dk_iload 73 5 dL_law_71 rfl rfl ?_
    refine dk_imul 74 dL_law_73 rfl ?_
    refine dk_iadd 75 dL_law_74 rfl ?_
    refine dk_istore 77 6 [some (.ref 1003000), some (.ref 0), some (.ref s2_41), some (.ref p3_41), some (.int s4_41), some (.int s5_41), some (.int ((v_57 * ((s5_41 / (12 : Int32)) + (1 : Int32))) + ((227 : Int32) * s5_41))), none, none, none, none, none, none, none, none, none, none] dL_law_75 rfl (by decide) rfl ?_
    refine dk_iload 79 6 dL_law_77 rfl rfl ?_
    refine dk_iconst 80 0 dL_law_79 rfl rfl ?_
    refine dk_bipush 82 13 dL_law_80 rfl rfl ?_
    refine dk_callS (np := 3) (M' := m_L_between) (As := [.int ((v_57 * ((s5_41 / (12 : Int32)) + (1 : Int32))) + ((227 : Int32) * s5_41)), .int 0, .int 13]) (st := []) 85 dL_law_82 rfl rfl km_L_between ks_L_between ml_EncoresLaw_37 (by decide) rfl rfl (Nat.le_of_ble_eq_true rfl) (dc_L_between N (d + 11) ((v_57 * ((s5_41 / (12 : Int32)) + (1 : Int32))) + ((227 : Int32) * s5_41)) (0 : Int32) (13 : Int32) h_57) (fun v_82 h_82 e_82 => ?_)
    show DOk _ _ _ _ _ (.int v_82 :: []) _ _
    refine dk_istore 87 7 [some (.ref 1003000), some (.ref 0), some (.ref s2_41), some (.ref p3_41), some (.int s4_41), some (.int s5_41), some (.int ((v_57 * ((s5_41 / (12 : Int32)) + (1 : Int32))) + ((227 : Int32) * s5_41))), some (.int v_82), none, none, none, none, none, none, none, none, none] dL_law_85 rfl (by decide) rfl ?_
    refine dk_iload 89 6 dL_law_87 rfl rfl ?_
    refine dk_iconst 90 3 dL_law_89 rfl rfl ?_
    refine dk_ishr 91 dL_law_90 rfl ?_
    refine dk_iconst 92 0 dL_law_91 rfl rfl ?_
    refine dk_aload_n 93 2 dL_law_92 rfl rfl rfl ?_
    refine dk_getIN 96 dL_law_93 rfl rfl FN_EncoresLaw_62 (fun a_93 _ => ?_)
    refine dk_callS (np := 3) (M' := m_L_between) (As := [.int (((v_57 * ((s5_41 / (12 : Int32)) + (1 : Int32))) + ((227 : Int32) * s5_41)) >>> ((3 : Int32) &&& 31)), .int 0, .int a_93]) (st := []) 99 dL_law_96 rfl rfl km_L_between ks_L_between ml_EncoresLaw_37 (by decide) rfl rfl (Nat.le_of_ble_eq_true rfl) (dc_L_between N (d + 11) (((v_57 * ((s5_41 / (12 : Int32)) + (1 : Int32))) + ((227 : Int32) * s5_41)) >>> ((3 : Int32) &&& 31)) (0 : Int32) a_93 h_82) (fun v_96 h_96 e_96 => ?_)
    show DOk _ _ _ _ _ (.int v_96 :: []) _ _
    refine dk_istore 101 8 [some (.ref 1003000), some (.ref 0), some (.ref s2_41), some (.ref p3_41), some (.int s4_41), some (.int s5_41), some (.int ((v_57 * ((s5_41 / (12 : Int32)) + (1 : Int32))) + ((227 : Int32) * s5_41))), some (.int v_82), some (.int v_96), none, none, none, none, none, none, none, none] dL_law_99 rfl (by decide) rfl ?_
    refine dk_iload 103 6 dL_law_101 rfl rfl ?_
    refine dk_iconst 104 5 dL_law_103 rfl rfl ?_
    refine dk_ishr 105 dL_law_104 rfl ?_
    refine dk_iconst 106 0 dL_law_105 rfl rfl ?_
    refine dk_aload_n 107 2 dL_law_106 rfl rfl rfl ?_
    refine dk_getIN 110 dL_law_107 rfl rfl FN_EncoresLaw_103 (fun a_107 _ => ?_)
    refine dk_callS (np := 3) (M' := m_L_between) (As := [.int (((v_57 * ((s5_41 / (12 : Int32)) + (1 : Int32))) + ((227 : Int32) * s5_41)) >>> ((5 : Int32) &&& 31)), .int 0, .int a_107]) (st := []) 113 dL_law_110 rfl rfl km_L_between ks_L_between ml_EncoresLaw_37 (by decide) rfl rfl (Nat.le_of_ble_eq_true rfl) (dc_L_between N (d + 11) (((v_57 * ((s5_41 / (12 : Int32)) + (1 : Int32))) + ((227 : Int32) * s5_41)) >>> ((5 : Int32) &&& 31)) (0 : Int32) a_107 h_96) (fun v_110 h_110 e_110 => ?_)
    show DOk _ _ _ _ _ (.int v_110 :: []) _ _
    refine dk_istore 115 9 [some (.ref 1003000), some (.ref 0), some (.ref s2_41), some (.ref p3_41), some (.int s4_41), some (.int s5_41), some (.int ((v_57 * ((s5_41 / (12 : Int32)) + (1 : Int32))) + ((227 : Int32) * s5_41))), some (.int v_82), some (.int v_96), some (.int v_110), none, none, none, none, none, none, none] dL_law_113 rfl (by decide) rfl ?_
    refine dk_aload_n 116 2 dL_law_115 rfl rfl rfl ?_
    refine dk_callV (np := 0) (M' := m_X12_copy) (As := []) (st := []) 12 119 dL_law_116 rfl rfl km_X12_copy ki_X12_copy kv_X12_copy ml_EncoresLaw_183 (by decide) (by decide) rfl rfl rfl (Nat.le_of_ble_eq_true rfl) (dc_X12_copy N (d + 9) s2_41 h_110) (fun v_116 h_116 e_116 => ?_)
    show DOk _ _ _ _ _ ((if v_116 = -1 then Value.null else .ref v_116.toNatClampNeg) :: []) _ _
    refine dk_rr (fun r_116 => ?_)
    refine dk_astore 121 10 [some (.ref 1003000), some (.ref 0), some (.ref s2_41), some (.ref p3_41), some (.int s4_41), some (.int s5_41), some (.int ((v_57 * ((s5_41 / (12 : Int32)) + (1 : Int32))) + ((227 : Int32) * s5_41))), some (.int v_82), some (.int v_96), some (.int v_110), some (.ref r_116), none, none, none, none, none, none] dL_law_119 rfl (by decide) rfl ?_
    refine dk_iconst 122 0 dL_law_121 rfl rfl ?_
    refine dk_istore 124 11 [some (.ref 1003000), some (.ref 0), some (.ref s2_41), some (.ref p3_41), some (.int s4_41), some (.int s5_41), some (.int ((v_57 * ((s5_41 / (12 : Int32)) + (1 : Int32))) + ((227 : Int32) * s5_41))), some (.int v_82), some (.int v_96), some (.int v_110), some (.ref r_116), some (.int 0), none, none, none, none, none] dL_law_122 rfl (by decide) rfl ?_
    refine dk_iload 126 7 dL_law_124 rfl rfl ?_
    refine dk_iconst 127 3 dL_law_126 rfl rfl ?_
    refine dk_icmp_ge 233 130 dL_law_127 (by decide) rfl (fun _ => ?_) (fun _ => ?_)
    · refine dk_iload 235 7 dL_law_233 rfl rfl ?_
      refine dk_bipush 237 6 dL_law_235 rfl rfl ?_
      refine dk_icmp_ge 313 240 dL_law_237 (by decide) rfl (fun _ => ?_) (fun _ => ?_)
      · refine dk_iload 315 7 dL_law_313 rfl rfl ?_
        refine dk_bipush 317 6 dL_law_315 rfl rfl ?_
        refine dk_icmp_ne 431 320 dL_law_317 (by decide) rfl (fun _ => ?_) (fun _ => ?_)
        · refine dk_iload 433 7 dL_law_431 rfl rfl ?_
          refine dk_bipush 435 9 dL_law_433 rfl rfl ?_
          refine dk_icmp_ge 597 438 dL_law_435 (by decide) rfl (fun _ => ?_) (fun _ => ?_)
          · refine dk_iload 599 7 dL_law_597 rfl rfl ?_
            refine dk_bipush 601 9 dL_law_599 rfl rfl ?_
            refine dk_icmp_ne 850 604 dL_law_601 (by decide) rfl (fun _ => ?_) (fun _ => ?_)
            · refine dk_iload 852 7 dL_law_850 rfl rfl ?_
              refine dk_bipush 854 10 dL_law_852 rfl rfl ?_
              refine dk_icmp_ne 885 857 dL_law_854 (by decide) rfl (fun _ => ?_) (fun _ => ?_)
              · refine dk_aload_n 886 1 dL_law_885 rfl rfl rfl ?_
                refine dk_callXV (np := 0) (M' := m_X11_undo) (As := []) (st := []) 889 dL_law_886 rfl rfl km_X11_undo ki_X11_undo kv_X11_undo ml_EncoresLaw_222 (by decide) rfl rfl rfl (fun k hk => by simp at hk) (Nat.le_of_ble_eq_true rfl) (c_X11_undo N (d + 7)  h_116.1) (fun _ h => by cases h; exact pr_bool) (fun v_886 n_886 e_886 => ?_)
                generalize pat h_116 n_886 = hh_886
                refine dk_gs (fun h_886 _ => ?_)
                show DOk _ _ _ _ _ (.int v_886 :: []) _ _
                refine dk_iload 891 4 dL_law_889 rfl rfl ?_
                refine dk_if_le 898 894 dL_law_891 (by decide) rfl (fun _ => ?_) (fun _ => ?_)
                · refine dk_iconst 899 0 dL_law_898 rfl rfl ?_
                  exact dk_less [some (.ref 1003000), some (.ref 0), some (.ref s2_41), some (.ref p3_41), some (.int s4_41), some (.int s5_41), none, none, none, none, some (.ref r_116), some (.int 0), none, none, none, none, none] (And.intro rfl (And.intro rfl (And.intro rfl (And.intro rfl (And.intro rfl (And.intro rfl (And.intro rfl (And.intro rfl (trivial))))))))) (dj_L_law_J899_41 N d Lc xs p3_41 K994 X hK994 hX s2_41 s4_41 s5_41 r_116 0 (0 : Int32) v_886 h_886)
                · refine dk_iconst 895 1 dL_law_894 rfl rfl ?_
                  refine dk_goto 899 dL_law_895 (by decide) ?_
                  exact dk_less [some (.ref 1003000), some (.ref 0), some (.ref s2_41), some (.ref p3_41), some (.int s4_41), some (.int s5_41), none, none, none, none, some (.ref r_116), some (.int 0), none, none, none, none, none] (And.intro rfl (And.intro rfl (And.intro rfl (And.intro rfl (And.intro rfl (And.intro rfl (And.intro rfl (And.intro rfl (trivial))))))))) (dj_L_law_J899_41 N d Lc xs p3_41 K994 X hK994 hX s2_41 s4_41 s5_41 r_116 0 (1 : Int32) v_886 h_886)
              · refine dk_iload 859 6 dL_law_857 rfl rfl ?_
                refine dk_bipush 861 6 dL_law_859 rfl rfl ?_
                refine dk_ishr 862 dL_law_861 rfl ?_
                refine dk_iconst 863 1 dL_law_862 rfl rfl ?_
                refine dk_iand 864 dL_law_863 rfl ?_
                refine dk_if_ne 917 867 dL_law_864 (by decide) rfl (fun _ => ?_) (fun _ => ?_)
                · exact dk_less [some (.ref 1003000), some (.ref 0), some (.ref s2_41), some (.ref p3_41), some (.int s4_41), some (.int s5_41), none, none, none, none, some (.ref r_116), some (.int 0), none, none, none, none, none] (And.intro rfl (And.intro rfl (And.intro rfl (And.intro rfl (And.intro rfl (And.intro rfl (And.intro rfl (And.intro rfl (trivial))))))))) (dj_L_law_J917_41 N d Lc xs p3_41 K994 X hK994 hX s2_41 s4_41 s5_41 r_116 0 h_116)
                · refine dk_aload_n 868 1 dL_law_867 rfl rfl rfl ?_
                  refine dk_aload_n 869 2 dL_law_868 rfl rfl rfl ?_
                  refine dk_iload 871 6 dL_law_869 rfl rfl ?_
                  refine dk_callS (np := 3) (M' := m_L_texts) (As := [.ref 0, .ref s2_41, .int ((v_57 * ((s5_41 / (12 : Int32)) + (1 : Int32))) + ((227 : Int32) * s5_41))]) (st := []) 874 dL_law_871 rfl rfl km_L_texts ks_L_texts ml_EncoresLaw_165 (by decide) rfl rfl (Nat.le_of_ble_eq_true rfl) (dc_L_texts N (d + 1) s2_41 ((v_57 * ((s5_41 / (12 : Int32)) + (1 : Int32))) + ((227 : Int32) * s5_41)) h_116) (fun v_871 h_871 e_871 => ?_)
                  show DOk _ _ _ _ _ (.int v_871 :: []) _ _
                  refine dk_if_ne 879 877 dL_law_874 (by decide) rfl (fun _ => ?_) (fun _ => ?_)
                  · refine dk_iconst 880 0 dL_law_879 rfl rfl ?_
                    refine dk_istore 882 4 [some (.ref 1003000), some (.ref 0), some (.ref s2_41), some (.ref p3_41), some (.int 0), some (.int s5_41), some (.int ((v_57 * ((s5_41 / (12 : Int32)) + (1 : Int32))) + ((227 : Int32) * s5_41))), some (.int v_82), some (.int v_96), some (.int v_110), some (.ref r_116), some (.int 0), none, none, none, none, none] dL_law_880 rfl (by decide) rfl ?_
                    refine dk_goto 917 dL_law_882 (by decide) ?_
                    exact dk_less [some (.ref 1003000), some (.ref 0), some (.ref s2_41), some (.ref p3_41), some (.int 0), some (.int s5_41), none, none, none, none, some (.ref r_116), some (.int 0), none, none, none, none, none] (And.intro rfl (And.intro rfl (And.intro rfl (And.intro rfl (And.intro rfl (And.intro rfl (And.intro rfl (And.intro rfl (trivial))))))))) (dj_L_law_J917_41 N d Lc xs p3_41 K994 X hK994 hX s2_41 0 s5_41 r_116 0 h_871)
                  · refine dk_iconst 878 0 dL_law_877 rfl rfl ?_
                    exact dk_zretc dL_law_878 rfl rfl
            · refine dk_iload 606 6 dL_law_604 rfl rfl ?_
              refine dk_iconst 607 4 dL_law_606 rfl rfl ?_
              refine dk_ishr 608 dL_law_607 rfl ?_
              refine dk_iconst 609 0 dL_law_608 rfl rfl ?_
              refine dk_bipush 611 6 dL_law_609 rfl rfl ?_
              refine dk_callS (np := 3) (M' := m_L_between) (As := [.int (((v_57 * ((s5_41 / (12 : Int32)) + (1 : Int32))) + ((227 : Int32) * s5_41)) >>> ((4 : Int32) &&& 31)), .int 0, .int 6]) (st := []) 614 dL_law_611 rfl rfl km_L_between ks_L_between ml_EncoresLaw_37 (by decide) rfl rfl (Nat.le_of_ble_eq_true rfl) (dc_L_between N (d + 11) (((v_57 * ((s5_41 / (12 : Int32)) + (1 : Int32))) + ((227 : Int32) * s5_41)) >>> ((4 : Int32) &&& 31)) (0 : Int32) (6 : Int32) h_116) (fun v_611 h_611 e_611 => ?_)
              show DOk _ _ _ _ _ (.int v_611 :: []) _ _
              refine dk_istore 616 12 [some (.ref 1003000), some (.ref 0), some (.ref s2_41), some (.ref p3_41), some (.int s4_41), some (.int s5_41), some (.int ((v_57 * ((s5_41 / (12 : Int32)) + (1 : Int32))) + ((227 : Int32) * s5_41))), some (.int v_82), some (.int v_96), some (.int v_110), some (.ref r_116), some (.int 0), some (.int v_611), none, none, none, none] dL_law_614 rfl (by decide) rfl ?_
              refine dk_iload 618 6 dL_law_616 rfl rfl ?_
              refine dk_bipush 620 6 dL_law_618 rfl rfl ?_
              refine dk_ishr 621 dL_law_620 rfl ?_
              refine dk_iconst 622 0 dL_law_621 rfl rfl ?_
              refine dk_iload 624 12 dL_law_622 rfl rfl ?_
              refine dk_if_ne 633 627 dL_law_624 (by decide) rfl (fun _ => ?_) (fun _ => ?_)
              · refine dk_iload 635 12 dL_law_633 rfl rfl ?_
                refine dk_iconst 636 5 dL_law_635 rfl rfl ?_
                refine dk_icmp_ne 644 639 dL_law_636 (by decide) rfl (fun _ => ?_) (fun _ => ?_)
                · refine dk_bipush 646 10 dL_law_644 rfl rfl ?_
                  exact dk_less [some (.ref 1003000), some (.ref 0), some (.ref s2_41), some (.ref p3_41), some (.int s4_41), some (.int s5_41), none, none, some (.int v_96), some (.int v_110), some (.ref r_116), some (.int 0), some (.int v_611), none, none, none, none] (And.intro rfl (And.intro rfl (And.intro rfl (And.intro rfl (And.intro rfl (And.intro rfl (And.intro rfl (And.intro rfl (And.intro rfl (And.intro rfl (And.intro rfl (trivial)))))))))))) (dj_L_law_J646_41 N d Lc xs p3_41 K994 X hK994 hX s2_41 s4_41 s5_41 v_96 v_110 r_116 0 v_611 (10 : Int32) (0 : Int32) (((v_57 * ((s5_41 / (12 : Int32)) + (1 : Int32))) + ((227 : Int32) * s5_41)) >>> ((6 : Int32) &&& 31)) h_611)
                · refine dk_bipush 641 100 dL_law_639 rfl rfl ?_
                  refine dk_goto 646 dL_law_641 (by decide) ?_
                  exact dk_less [some (.ref 1003000), some (.ref 0), some (.ref s2_41), some (.ref p3_41), some (.int s4_41), some (.int s5_41), none, none, some (.int v_96), some (.int v_110), some (.ref r_116), some (.int 0), some (.int v_611), none, none, none, none] (And.intro rfl (And.intro rfl (And.intro rfl (And.intro rfl (And.intro rfl (And.intro rfl (And.intro rfl (And.intro rfl (And.intro rfl (And.intro rfl (And.intro rfl (trivial)))))))))))) (dj_L_law_J646_41 N d Lc xs p3_41 K994 X hK994 hX s2_41 s4_41 s5_41 v_96 v_110 r_116 0 v_611 (100 : Int32) (0 : Int32) (((v_57 * ((s5_41 / (12 : Int32)) + (1 : Int32))) + ((227 : Int32) * s5_41)) >>> ((6 : Int32) &&& 31)) h_611)
              · refine dk_sipush 630 1001 dL_law_627 rfl rfl ?_
                refine dk_goto 646 dL_law_630 (by decide) ?_
                exact dk_less [some (.ref 1003000), some (.ref 0), some (.ref s2_41), some (.ref p3_41), some (.int s4_41), some (.int s5_41), none, none, some (.int v_96), some (.int v_110), some (.ref r_116), some (.int 0), some (.int v_611), none, none, none, none] (And.intro rfl (And.intro rfl (And.intro rfl (And.intro rfl (And.intro rfl (And.intro rfl (And.intro rfl (And.intro rfl (And.intro rfl (And.intro rfl (And.intro rfl (trivial)))))))))))) (dj_L_law_J646_41 N d Lc xs p3_41 K994 X hK994 hX s2_41 s4_41 s5_41 v_96 v_110 r_116 0 v_611 (1001 : Int32) (0 : Int32) (((v_57 * ((s5_41 / (12 : Int32)) + (1 : Int32))) + ((227 : Int32) * s5_41)) >>> ((6 : Int32) &&& 31)) h_611)
          · refine dk_iload 440 7 dL_law_438 rfl rfl ?_
            refine dk_bipush 442 7 dL_law_440 rfl rfl ?_
            refine dk_icmp_ne 449 445 dL_law_442 (by decide) rfl (fun _ => ?_) (fun _ => ?_)
            · refine dk_iconst 450 3 dL_law_449 rfl rfl ?_
              exact dk_less [some (.ref 1003000), some (.ref 0), some (.ref s2_41), some (.ref p3_41), some (.int s4_41), some (.int s5_41), some (.int ((v_57 * ((s5_41 / (12 : Int32)) + (1 : Int32))) + ((227 : Int32) * s5_41))), none, some (.int v_96), none, some (.ref r_116), none, none, none, none, none, none] (And.intro rfl (And.intro rfl (And.intro rfl (And.intro rfl (And.intro rfl (And.intro rfl (And.intro rfl (And.intro rfl (And.intro rfl (trivial)))))))))) (dj_L_law_J450_41 N d Lc xs p3_41 K994 X hK994 hX s2_41 s4_41 s5_41 ((v_57 * ((s5_41 / (12 : Int32)) + (1 : Int32))) + ((227 : Int32) * s5_41)) v_96 r_116 (3 : Int32) h_116)
            · refine dk_iconst 446 4 dL_law_445 rfl rfl ?_
              refine dk_goto 450 dL_law_446 (by decide) ?_
              exact dk_less [some (.ref 1003000), some (.ref 0), some (.ref s2_41), some (.ref p3_41), some (.int s4_41), some (.int s5_41), some (.int ((v_57 * ((s5_41 / (12 : Int32)) + (1 : Int32))) + ((227 : Int32) * s5_41))), none, some (.int v_96), none, some (.ref r_116), none, none, none, none, none, none] (And.intro rfl (And.intro rfl (And.intro rfl (And.intro rfl (And.intro rfl (And.intro rfl (And.intro rfl (And.intro rfl (And.intro rfl (trivial)))))))))) (dj_L_law_J450_41 N d Lc xs p3_41 K994 X hK994 hX s2_41 s4_41 s5_41 ((v_57 * ((s5_41 / (12 : Int32)) + (1 : Int32))) + ((227 : Int32) * s5_41)) v_96 r_116 (4 : Int32) h_116)
        · refine dk_iload 322 6 dL_law_320 rfl rfl ?_
          refine dk_bipush 324 6 dL_law_322 rfl rfl ?_
          refine dk_ishr 325 dL_law_324 rfl ?_
          refine dk_iconst 326 0 dL_law_325 rfl rfl ?_
          refine dk_bipush 328 100 dL_law_326 rfl rfl ?_
          refine dk_callS (np := 3) (M' := m_L_between) (As := [.int (((v_57 * ((s5_41 / (12 : Int32)) + (1 : Int32))) + ((227 : Int32) * s5_41)) >>> ((6 : Int32) &&& 31)), .int 0, .int 100]) (st := []) 331 dL_law_328 rfl rfl km_L_between ks_L_between ml_EncoresLaw_37 (by decide) rfl rfl (Nat.le_of_ble_eq_true rfl) (dc_L_between N (d + 11) (((v_57 * ((s5_41 / (12 : Int32)) + (1 : Int32))) + ((227 : Int32) * s5_41)) >>> ((6 : Int32) &&& 31)) (0 : Int32) (100 : Int32) h_116) (fun v_328 h_328 e_328 => ?_)
          show DOk _ _ _ _ _ (.int v_328 :: []) _ _
          refine dk_istore 333 12 [some (.ref 1003000), some (.ref 0), some (.ref s2_41), some (.ref p3_41), some (.int s4_41), some (.int s5_41), some (.int ((v_57 * ((s5_41 / (12 : Int32)) + (1 : Int32))) + ((227 : Int32) * s5_41))), some (.int v_82), some (.int v_96), some (.int v_110), some (.ref r_116), some (.int 0), some (.int v_328), none, none, none, none] dL_law_331 rfl (by decide) rfl ?_
          refine dk_iload 335 8 dL_law_333 rfl rfl ?_
          refine dk_aload_n 336 2 dL_law_335 rfl rfl rfl ?_
          refine dk_getIN 339 dL_law_336 rfl rfl FN_EncoresLaw_62 (fun a_336 _ => ?_)
          refine dk_icmp_ge 358 342 dL_law_339 (by decide) rfl (fun _ => ?_) (fun _ => ?_)
          · exact dk_less [some (.ref 1003000), some (.ref 0), some (.ref s2_41), some (.ref p3_41), some (.int s4_41), some (.int s5_41), none, none, some (.int v_96), none, some (.ref r_116), none, some (.int v_328), none, none, none, none] (And.intro rfl (And.intro rfl (And.intro rfl (And.intro rfl (And.intro rfl (And.intro rfl (And.intro rfl (And.intro rfl (And.intro rfl (trivial)))))))))) (dj_L_law_J358_41 N d Lc xs p3_41 K994 X hK994 hX s2_41 s4_41 s5_41 v_96 r_116 v_328 h_328)
          · refine dk_iload 344 12 dL_law_342 rfl rfl ?_
            refine dk_if_le 358 347 dL_law_344 (by decide) rfl (fun _ => ?_) (fun _ => ?_)
            · exact dk_less [some (.ref 1003000), some (.ref 0), some (.ref s2_41), some (.ref p3_41), some (.int s4_41), some (.int s5_41), none, none, some (.int v_96), none, some (.ref r_116), none, some (.int v_328), none, none, none, none] (And.intro rfl (And.intro rfl (And.intro rfl (And.intro rfl (And.intro rfl (And.intro rfl (And.intro rfl (And.intro rfl (And.intro rfl (trivial)))))))))) (dj_L_law_J358_41 N d Lc xs p3_41 K994 X hK994 hX s2_41 s4_41 s5_41 v_96 r_116 v_328 h_328)
            · refine dk_iload 349 12 dL_law_347 rfl rfl ?_
              refine dk_bipush 351 100 dL_law_349 rfl rfl ?_
              refine dk_icmp_ge 358 354 dL_law_351 (by decide) rfl (fun _ => ?_) (fun _ => ?_)
              · exact dk_less [some (.ref 1003000), some (.ref 0), some (.ref s2_41), some (.ref p3_41), some (.int s4_41), some (.int s5_41), none, none, some (.int v_96), none, some (.ref r_116), none, some (.int v_328), none, none, none, none] (And.intro rfl (And.intro rfl (And.intro rfl (And.intro rfl (And.intro rfl (And.intro rfl (And.intro rfl (And.intro rfl (And.intro rfl (trivial)))))))))) (dj_L_law_J358_41 N d Lc xs p3_41 K994 X hK994 hX s2_41 s4_41 s5_41 v_96 r_116 v_328 h_328)
              · refine dk_iconst 355 1 dL_law_354 rfl rfl ?_
                refine dk_goto 359 dL_law_355 (by decide) ?_
                exact dk_less [some (.ref 1003000), some (.ref 0), some (.ref s2_41), some (.ref p3_41), some (.int s4_41), some (.int s5_41), none, none, some (.int v_96), none, some (.ref r_116), none, some (.int v_328), none, none, none, none] (And.intro rfl (And.intro rfl (And.intro rfl (And.intro rfl (And.intro rfl (And.intro rfl (And.intro rfl (And.intro rfl (And.intro rfl (trivial)))))))))) (dj_L_law_J359_41 N d Lc xs p3_41 K994 X hK994 hX s2_41 s4_41 s5_41 v_96 r_116 v_328 (1 : Int32) h_328)
      · refine dk_iload 242 9 dL_law_240 rfl rfl ?_
        refine dk_aload_n 243 2 dL_law_242 rfl rfl rfl ?_
        refine dk_getIN 246 dL_law_243 rfl rfl FN_EncoresLaw_103 (fun a_243 _ => ?_)
        refine dk_icmp_ge 276 249 dL_law_246 (by decide) rfl (fun _ => ?_) (fun _ => ?_)
        · exact dk_less [some (.ref 1003000), some (.ref 0), some (.ref s2_41), some (.ref p3_41), some (.int s4_41), some (.int s5_41), none, none, none, some (.int v_110), some (.ref r_116), none, none, none, none, none, none] (And.intro rfl (And.intro rfl (And.intro rfl (And.intro rfl (And.intro rfl (And.intro rfl (And.intro rfl (And.intro rfl (trivial))))))))) (dj_L_law_J276_41 N d Lc xs p3_41 K994 X hK994 hX s2_41 s4_41 s5_41 v_110 r_116 h_116)
        · refine dk_aload_n 250 2 dL_law_249 rfl rfl rfl ?_
          refine dk_getIN 253 dL_law_250 rfl rfl FN_EncoresLaw_194 (fun a_250 _ => ?_)
          refine dk_bipush 255 21 dL_law_253 rfl rfl ?_
          refine dk_aload_n 256 2 dL_law_255 rfl rfl rfl ?_
          refine dk_getRN 259 dL_law_256 rfl rfl FN_EncoresLaw_153 (fun r_256 _ => ?_)
          refine dk_iload 261 9 dL_law_259 rfl rfl ?_
          refine dk_aald 103 262 (Or.inl rfl) dL_law_261 rfl (fun r_261 _ => ?_)
          refine dk_iconst 263 1 dL_law_262 rfl rfl ?_
          refine dk_iald 264 dL_law_263 rfl (fun a_263 _ => ?_)
          refine dk_imul 265 dL_law_264 rfl ?_
          refine dk_iadd 266 dL_law_265 rfl ?_
          refine dk_sipush 269 9999 dL_law_266 rfl rfl ?_
          refine dk_icmp_ge 276 272 dL_law_269 (by decide) rfl (fun _ => ?_) (fun _ => ?_)
          · exact dk_less [some (.ref 1003000), some (.ref 0), some (.ref s2_41), some (.ref p3_41), some (.int s4_41), some (.int s5_41), none, none, none, some (.int v_110), some (.ref r_116), none, none, none, none, none, none] (And.intro rfl (And.intro rfl (And.intro rfl (And.intro rfl (And.intro rfl (And.intro rfl (And.intro rfl (And.intro rfl (trivial))))))))) (dj_L_law_J276_41 N d Lc xs p3_41 K994 X hK994 hX s2_41 s4_41 s5_41 v_110 r_116 h_116)
          · refine dk_iconst 273 1 dL_law_272 rfl rfl ?_
            refine dk_goto 277 dL_law_273 (by decide) ?_
            exact dk_less [some (.ref 1003000), some (.ref 0), some (.ref s2_41), some (.ref p3_41), some (.int s4_41), some (.int s5_41), none, none, none, some (.int v_110), some (.ref r_116), none, none, none, none, none, none] (And.intro rfl (And.intro rfl (And.intro rfl (And.intro rfl (And.intro rfl (And.intro rfl (And.intro rfl (And.intro rfl (trivial))))))))) (dj_L_law_J277_41 N d Lc xs p3_41 K994 X hK994 hX s2_41 s4_41 s5_41 v_110 r_116 (1 : Int32) h_116)
    · refine dk_iload 132 6 dL_law_130 rfl rfl ?_
      refine dk_iconst 133 5 dL_law_132 rfl rfl ?_
      refine dk_ishr 134 dL_law_133 rfl ?_
      refine dk_iconst 135 1 dL_law_134 rfl rfl ?_
      refine dk_iconst 136 3 dL_law_135 rfl rfl ?_
      refine dk_callS (np := 3) (M' := m_L_between) (As := [.int (((v_57 * ((s5_41 / (12 : Int32)) + (1 : Int32))) + ((227 : Int32) * s5_41)) >>> ((5 : Int32) &&& 31)), .int 1, .int 3]) (st := []) 139 dL_law_136 rfl rfl km_L_between ks_L_between ml_EncoresLaw_37 (by decide) rfl rfl (Nat.le_of_ble_eq_true rfl) (dc_L_between N (d + 11) (((v_57 * ((s5_41 / (12 : Int32)) + (1 : Int32))) + ((227 : Int32) * s5_41)) >>> ((5 : Int32) &&& 31)) (1 : Int32) (3 : Int32) h_116) (fun v_136 h_136 e_136 => ?_)
      show DOk _ _ _ _ _ (.int v_136 :: []) _ _
      refine dk_istore 141 12 [some (.ref 1003000), some (.ref 0), some (.ref s2_41), some (.ref p3_41), some (.int s4_41), some (.int s5_41), some (.int ((v_57 * ((s5_41 / (12 : Int32)) + (1 : Int32))) + ((227 : Int32) * s5_41))), some (.int v_82), some (.int v_96), some (.int v_110), some (.ref r_116), some (.int 0), some (.int v_136), none, none, none, none] dL_law_139 rfl (by decide) rfl ?_
      refine dk_iconst 142 0 dL_law_141 rfl rfl ?_
      refine dk_istore 144 13 [some (.ref 1003000), some (.ref 0), some (.ref s2_41), some (.ref p3_41), some (.int s4_41), some (.int s5_41), some (.int ((v_57 * ((s5_41 / (12 : Int32)) + (1 : Int32))) + ((227 : Int32) * s5_41))), some (.int v_82), some (.int v_96), some (.int v_110), some (.ref r_116), some (.int 0), some (.int v_136), some (.int 0), none, none, none] dL_law_142 rfl (by decide) rfl ?_
      refine dk_iconst 145 0 dL_law_144 rfl rfl ?_
      refine dk_istore 147 14 [some (.ref 1003000), some (.ref 0), some (.ref s2_41), some (.ref p3_41), some (.int s4_41), some (.int s5_41), some (.int ((v_57 * ((s5_41 / (12 : Int32)) + (1 : Int32))) + ((227 : Int32) * s5_41))), some (.int v_82), some (.int v_96), some (.int v_110), some (.ref r_116), some (.int 0), some (.int v_136), some (.int 0), some (.int 0), none, none] dL_law_145 rfl (by decide) rfl ?_
      refine dk_less [some (.ref 1003000), some (.ref 0), some (.ref s2_41), some (.ref p3_41), some (.int s4_41), some (.int s5_41), none, none, none, none, some (.ref r_116), some (.int 0), some (.int v_136), some (.int 0), some (.int 0), none, none] (And.intro rfl (And.intro rfl (And.intro rfl (And.intro rfl (And.intro rfl (And.intro rfl (And.intro rfl (And.intro rfl (And.intro rfl (And.intro rfl (And.intro rfl (trivial)))))))))))) ?_
      exact dl_L_law_L147 N d Lc xs s2_41 p3_41 s5_41 r_116 0 v_136 (fun k4_217 k13_217 hk217 => chk (isT hk217 11 0) <| bdX (f_X11_evenings N v_136 hk217.1) hk217 fun v_220 hh_220 => bnd (gs (f_X12_evenings N v_136) hh_220) fun h_220 =>
if v_220 = k13_217 then (g_L_law_J917_41 N Lc xs p3_41 K994 X s2_41 k4_217 s5_41 r_116 0 h_220)
else (some ((0 : Int32), h_220))) (fun k4_217 k13_217 hk217 => by
          refine dk_aload_n 218 1 dL_law_217 rfl rfl rfl ?_
          refine dk_iload 220 12 dL_law_218 rfl rfl ?_
          refine dk_callXV (np := 1) (M' := m_X11_evenings) (As := [.int v_136]) (st := []) 223 dL_law_220 rfl rfl km_X11_evenings ki_X11_evenings kv_X11_evenings ml_EncoresLaw_191 (by decide) rfl rfl rfl (fun k hk => by simp at hk) (Nat.le_of_ble_eq_true rfl) (c_X11_evenings N (d + 4) v_136 hk217.1) (fun _ h => by cases h; exact pr_int) (fun v_220 n_220 e_220 => ?_)
          generalize pat hk217 n_220 = hh_220
          refine dk_gs (fun h_220 _ => ?_)
          show DOk _ _ _ _ _ (.int v_220 :: []) _ _
          refine dk_iload 225 13 dL_law_223 rfl rfl ?_
          refine dk_icmp_eq 230 228 dL_law_225 (by decide) rfl (fun _ => ?_) (fun _ => ?_)
          · refine dk_goto 917 dL_law_230 (by decide) ?_
            exact dk_less [some (.ref 1003000), some (.ref 0), some (.ref s2_41), some (.ref p3_41), some (.int k4_217), some (.int s5_41), none, none, none, none, some (.ref r_116), some (.int 0), none, none, none, none, none] (And.intro rfl (And.intro rfl (And.intro rfl (And.intro rfl (And.intro rfl (And.intro rfl (And.intro rfl (And.intro rfl (trivial))))))))) (dj_L_law_J917_41 N d Lc xs p3_41 K994 X hK994 hX s2_41 k4_217 s5_41 r_116 0 h_220)
          · refine dk_iconst 229 0 dL_law_228 rfl rfl ?_
            exact dk_zretc dL_law_229 rfl rfl) N (s4_41, 0, 0) h_136

set_option maxRecDepth 100000 in
set_option maxHeartbeats 4000000 in
theorem dl_L_law_L41 (N d : Nat) (Lc : Nat) (xs : Nat → Int32) (p3_41 : Nat) (K994 : Nat → DS → DA) (hK994 : ∀ (k2 : Nat) (h : DS), DOk (some (Lc, xs)) (d + 12) m_L_law 994 [none, some (.ref 0), some (.ref k2), none, none, none, none, none, none, none, none, none, none, none, none, none, none] [] h (K994 k2 h)) : ∀ (n : Nat) (a : (Nat × Int32 × Int32)) (h : DS), DOk (some (Lc, xs)) (d + 12) m_L_law 41 [some (.ref 1003000), some (.ref 0), some (.ref a.1), some (.ref p3_41), some (.int a.2.1), some (.int a.2.2), none, none, none, none, none, none, none, none, none, none, none] [] h (jt (fun Y a hz => g_L_law_L41 N Lc xs p3_41 K994 Y a.1 a.2.1 a.2.2 hz) n a h) :=
  dk_jt (fun a => [some (.ref 1003000), some (.ref 0), some (.ref a.1), some (.ref p3_41), some (.int a.2.1), some (.int a.2.2), none, none, none, none, none, none, none, none, none, none, none]) (fun X hX a h => db_L_law_L41 N d Lc xs p3_41 K994 hK994 X hX a.1 a.2.1 a.2.2 h)

set_option maxRecDepth 100000 in
set_option maxHeartbeats 4000000 in
theorem dg_L_law (N d : Nat) (Lc : Nat) (xs : Nat → Int32) (h : DS) : DOk (some (Lc, xs)) (d + 12) m_L_law 8 [some (.ref 1003000), some (.ref 0), none, none, none, none, none, none, none, none, none, none, none, none, none, none, none] [] h (g_L_law N Lc xs h) := by
  unfold g_L_law
  refine dk_aload_n 9 1 dL_law_8 rfl rfl rfl ?_
  refine dk_aload_n 10 0 dL_law_9 rfl rfl rfl ?_
  refine dk_iconst 11 0 dL_law_10 rfl rfl ?_
  refine dk_callS (np := 3) (M' := m_L_house) (As := [.ref 0, .ref 1003000, .int 0]) (st := []) 14 dL_law_11 rfl rfl km_L_house ks_L_house ml_EncoresLaw_175 (by decide) rfl rfl (Nat.le_of_ble_eq_true rfl) (dc_L_house N (d + 0) Lc xs (0 : Int32) h) (fun v_11 h_11 e_11 => ?_)
  show DOk _ _ _ _ _ ((if v_11 = -1 then Value.null else .ref v_11.toNatClampNeg) :: []) _ _
  refine dk_ro (fun o_11 => ?_)
  refine dk_astore_no 15 2 [some (.ref 1003000), some (.ref 0), some (rv o_11), none, none, none, none, none, none, none, none, none, none, none, none, none, none] dL_law_14 rfl rfl (by decide) rfl ?_
  refine dk_aload_no 16 2 dL_law_15 rfl rfl rfl ?_
  refine dk_ifnull 27 19 dL_law_16 (by decide) rfl (fun he_16 => ?_) (fun r_16 he_16 => ?_)
  · subst he_16
    refine dk_iconst 28 0 dL_law_27 rfl rfl ?_
    exact dk_zretc dL_law_28 rfl rfl
  · subst he_16
    refine dk_aload_n 20 2 dL_law_19 rfl rfl rfl ?_
    refine dk_aload_n 21 1 dL_law_20 rfl rfl rfl ?_
    refine dk_callV (np := 1) (M' := m_X12_isSame) (As := [.ref 0]) (st := []) 12 24 dL_law_21 rfl rfl km_X12_isSame ki_X12_isSame kv_X12_isSame ml_EncoresLaw_179 (by decide) (by decide) rfl rfl rfl (Nat.le_of_ble_eq_true rfl) (dc_X12_isSame N (d + 6) r_16 h_11) (fun v_21 h_21 e_21 => ?_)
    show DOk _ _ _ _ _ (.int v_21 :: []) _ _
    refine dk_if_ne 29 27 dL_law_24 (by decide) rfl (fun _ => ?_) (fun _ => ?_)
    · refine dk_bipush 31 6 dL_law_29 rfl rfl ?_
      refine dk_newqH 34 dL_law_31 rfl rfl kl_EncoresLaw_49 (fun h_31 _ => ?_)
      refine dk_astore_n 35 3 [some (.ref 1003000), some (.ref 0), some (.ref r_16), some (.ref h_21.2.1.length), none, none, none, none, none, none, none, none, none, none, none, none, none] dL_law_34 rfl rfl (by decide) rfl ?_
      refine dk_iconst 36 0 dL_law_35 rfl rfl ?_
      refine dk_istore 38 4 [some (.ref 1003000), some (.ref 0), some (.ref r_16), some (.ref h_21.2.1.length), some (.int 0), none, none, none, none, none, none, none, none, none, none, none, none] dL_law_36 rfl (by decide) rfl ?_
      refine dk_iconst 39 0 dL_law_38 rfl rfl ?_
      refine dk_istore 41 5 [some (.ref 1003000), some (.ref 0), some (.ref r_16), some (.ref h_21.2.1.length), some (.int 0), some (.int 0), none, none, none, none, none, none, none, none, none, none, none] dL_law_39 rfl (by decide) rfl ?_
      refine dk_less [some (.ref 1003000), some (.ref 0), some (.ref r_16), some (.ref h_21.2.1.length), some (.int 0), some (.int 0), none, none, none, none, none, none, none, none, none, none, none] (And.intro rfl (And.intro rfl (And.intro rfl (And.intro rfl (And.intro rfl (And.intro rfl (trivial))))))) ?_
      exact dl_L_law_L41 N d Lc xs h_21.2.1.length (fun k2_994 hk994 => chk (isT hk994 11 0) <| bdX (f_X11_evenings N (0 : Int32) hk994.1) hk994 fun v_996 hh_996 => bnd (gs (f_X12_evenings N (0 : Int32)) hh_996) fun h_996 =>
if v_996 = (-1 : Int32) then (chk (isT h_996 11 0) <| bdX (f_X11_evenings N (21 : Int32) h_996.1) h_996 fun v_1006 hh_1006 => bnd (gs (f_X12_evenings N (21 : Int32)) hh_1006) fun h_1006 =>
if v_1006 = (-1 : Int32) then (chk (isT h_1006 11 0) <| bdX (f_X11_hearer N (10 : Int32) (0 : Int32) (0 : Int32) h_1006.1) h_1006 fun v_1018 hh_1018 => bnd (gs (f_X12_hearer N (10 : Int32) (0 : Int32) (0 : Int32)) hh_1018) fun h_1018 =>
if v_1018 = (-1 : Int32) then (chk (isT h_1018 11 0) <| bdX (f_X11_hearer N (0 : Int32) (0 : Int32) (-1 : Int32) h_1018.1) h_1018 fun v_1029 hh_1029 => bnd (gs (f_X12_hearer N (0 : Int32) (0 : Int32) (-1 : Int32)) hh_1029) fun h_1029 =>
if v_1029 = (-1 : Int32) then (chk (isT h_1029 11 0) <| bdX (f_X11_deed N (10 : Int32) (1 : Int32) (0 : Int32) h_1029.1) h_1029 fun v_1041 hh_1041 => bnd (gs (f_X12_deed N (10 : Int32) (1 : Int32) (0 : Int32)) hh_1041) fun h_1041 =>
if v_1041 = (-1 : Int32) then (chk (isT h_1041 11 0) <| bdX (f_X11_deed N (0 : Int32) (0 : Int32) (0 : Int32) h_1041.1) h_1041 fun v_1052 hh_1052 => bnd (gs (f_X12_deed N (0 : Int32) (0 : Int32) (0 : Int32)) hh_1052) fun h_1052 =>
if v_1052 = (-1 : Int32) then (chk (isT h_1052 11 0) <| bdX (f_X11_deed N (0 : Int32) (61 : Int32) (0 : Int32) h_1052.1) h_1052 fun v_1064 hh_1064 => bnd (gs (f_X12_deed N (0 : Int32) (61 : Int32) (0 : Int32)) hh_1064) fun h_1064 =>
if v_1064 = (-1 : Int32) then (chk (isT h_1064 11 0) <| bdX (f_X11_deed N (0 : Int32) (1 : Int32) (100 : Int32) h_1064.1) h_1064 fun v_1076 hh_1076 => bnd (gs (f_X12_deed N (0 : Int32) (1 : Int32) (100 : Int32)) hh_1076) fun h_1076 =>
if v_1076 = (-1 : Int32) then (chk (isT h_1076 11 0) <| bdX (f_X11_set N (6 : Int32) (0 : Int32) (0 : Int32) h_1076.1) h_1076 fun v_1088 hh_1088 => bnd (gs (f_X12_set N (6 : Int32) (0 : Int32) (0 : Int32)) hh_1088) fun h_1088 =>
if v_1088 = 0 then (chk (isT h_1088 11 0) <| bdX (f_X11_perform N (-1 : Int32) h_1088.1) h_1088 fun v_1096 hh_1096 => bnd (gs (f_X12_perform N (-1 : Int32)) hh_1096) fun h_1096 =>
if v_1096 = (-1 : Int32) then (chk (isT h_1096 11 0) <| bdX (f_X11_pay N (-1 : Int32) (1 : Int32) h_1096.1) h_1096 fun v_1106 hh_1106 => bnd (gs (f_X12_pay N (-1 : Int32) (1 : Int32)) hh_1106) fun h_1106 =>
if v_1106 = 0 then (bo (dI h_1106 k2_994 12 7) fun a_1114 =>
chk (isT h_1106 11 0) <| bdX (f_X11_glove N a_1114 (1 : Int32) h_1106.1) h_1106 fun v_1118 hh_1118 => bnd (gs (f_X12_glove N a_1114 (1 : Int32)) hh_1118) fun h_1118 =>
if v_1118 = 0 then (chk (isT h_1118 11 0) <| bdX (f_X11_let N (-1 : Int32) (0 : Int32) h_1118.1) h_1118 fun v_1127 hh_1127 => bnd (gs (f_X12_let N (-1 : Int32) (0 : Int32)) hh_1127) fun h_1127 =>
if v_1127 = 0 then (chk (isT h_1127 11 0) <| bdX (f_X11_book N (0 : Int32) (4 : Int32) h_1127.1) h_1127 fun v_1136 hh_1136 => bnd (gs (f_X12_book N (0 : Int32) (4 : Int32)) hh_1136) fun h_1136 =>
if v_1136 = (-1 : Int32) then (chk (isT h_1136 11 0) <| bdX (f_X11_look N (17 : Int32) h_1136.1) h_1136 fun v_1146 hh_1146 => bnd (gs (f_X12_look N (17 : Int32)) hh_1146) fun h_1146 =>
if v_1146 = (-100000 : Int32) then (chk (isT h_1146 12 k2_994) <| bd3 (g_X12_isSame N k2_994 h_1146) fun v_1156 h_1156 =>
if v_1156 = 0 then (some ((0 : Int32), h_1156))
else (some ((1 : Int32), h_1156)))
else (some ((0 : Int32), h_1146)))
else (some ((0 : Int32), h_1136)))
else (some ((0 : Int32), h_1127)))
else (some ((0 : Int32), h_1118)))
else (some ((0 : Int32), h_1106)))
else (some ((0 : Int32), h_1096)))
else (some ((0 : Int32), h_1088)))
else (some ((0 : Int32), h_1076)))
else (some ((0 : Int32), h_1064)))
else (some ((0 : Int32), h_1052)))
else (some ((0 : Int32), h_1041)))
else (some ((0 : Int32), h_1029)))
else (some ((0 : Int32), h_1018)))
else (some ((0 : Int32), h_1006)))
else (some ((0 : Int32), h_996))) (fun k2_994 hk994 => by
          refine dk_aload_n 995 1 dL_law_994 rfl rfl rfl ?_
          refine dk_iconst 996 0 dL_law_995 rfl rfl ?_
          refine dk_callXV (np := 1) (M' := m_X11_evenings) (As := [.int 0]) (st := []) 999 dL_law_996 rfl rfl km_X11_evenings ki_X11_evenings kv_X11_evenings ml_EncoresLaw_191 (by decide) rfl rfl rfl (fun k hk => by simp at hk) (Nat.le_of_ble_eq_true rfl) (c_X11_evenings N (d + 4) (0 : Int32) hk994.1) (fun _ h => by cases h; exact pr_int) (fun v_996 n_996 e_996 => ?_)
          generalize pat hk994 n_996 = hh_996
          refine dk_gs (fun h_996 _ => ?_)
          show DOk _ _ _ _ _ (.int v_996 :: []) _ _
          refine dk_iconst 1000 (-1) dL_law_999 rfl rfl ?_
          refine dk_icmp_ne 1166 1003 dL_law_1000 (by decide) rfl (fun _ => ?_) (fun _ => ?_)
          · refine dk_iconst 1167 0 dL_law_1166 rfl rfl ?_
            exact dk_zretc dL_law_1167 rfl rfl
          · refine dk_aload_n 1004 1 dL_law_1003 rfl rfl rfl ?_
            refine dk_bipush 1006 21 dL_law_1004 rfl rfl ?_
            refine dk_callXV (np := 1) (M' := m_X11_evenings) (As := [.int 21]) (st := []) 1009 dL_law_1006 rfl rfl km_X11_evenings ki_X11_evenings kv_X11_evenings ml_EncoresLaw_191 (by decide) rfl rfl rfl (fun k hk => by simp at hk) (Nat.le_of_ble_eq_true rfl) (c_X11_evenings N (d + 4) (21 : Int32) h_996.1) (fun _ h => by cases h; exact pr_int) (fun v_1006 n_1006 e_1006 => ?_)
            generalize pat h_996 n_1006 = hh_1006
            refine dk_gs (fun h_1006 _ => ?_)
            show DOk _ _ _ _ _ (.int v_1006 :: []) _ _
            refine dk_iconst 1010 (-1) dL_law_1009 rfl rfl ?_
            refine dk_icmp_ne 1166 1013 dL_law_1010 (by decide) rfl (fun _ => ?_) (fun _ => ?_)
            · refine dk_iconst 1167 0 dL_law_1166 rfl rfl ?_
              exact dk_zretc dL_law_1167 rfl rfl
            · refine dk_aload_n 1014 1 dL_law_1013 rfl rfl rfl ?_
              refine dk_bipush 1016 10 dL_law_1014 rfl rfl ?_
              refine dk_iconst 1017 0 dL_law_1016 rfl rfl ?_
              refine dk_iconst 1018 0 dL_law_1017 rfl rfl ?_
              refine dk_callXV (np := 3) (M' := m_X11_hearer) (As := [.int 10, .int 0, .int 0]) (st := []) 1021 dL_law_1018 rfl rfl km_X11_hearer ki_X11_hearer kv_X11_hearer ml_EncoresLaw_150 (by decide) rfl rfl rfl (fun k hk => by simp at hk) (Nat.le_of_ble_eq_true rfl) (c_X11_hearer N (d + 10) (10 : Int32) (0 : Int32) (0 : Int32) h_1006.1) (fun _ h => by cases h; exact pr_int) (fun v_1018 n_1018 e_1018 => ?_)
              generalize pat h_1006 n_1018 = hh_1018
              refine dk_gs (fun h_1018 _ => ?_)
              show DOk _ _ _ _ _ (.int v_1018 :: []) _ _
              refine dk_iconst 1022 (-1) dL_law_1021 rfl rfl ?_
              refine dk_icmp_ne 1166 1025 dL_law_1022 (by decide) rfl (fun _ => ?_) (fun _ => ?_)
              · refine dk_iconst 1167 0 dL_law_1166 rfl rfl ?_
                exact dk_zretc dL_law_1167 rfl rfl
              · refine dk_aload_n 1026 1 dL_law_1025 rfl rfl rfl ?_
                refine dk_iconst 1027 0 dL_law_1026 rfl rfl ?_
                refine dk_iconst 1028 0 dL_law_1027 rfl rfl ?_
                refine dk_iconst 1029 (-1) dL_law_1028 rfl rfl ?_
                refine dk_callXV (np := 3) (M' := m_X11_hearer) (As := [.int 0, .int 0, .int (-1)]) (st := []) 1032 dL_law_1029 rfl rfl km_X11_hearer ki_X11_hearer kv_X11_hearer ml_EncoresLaw_150 (by decide) rfl rfl rfl (fun k hk => by simp at hk) (Nat.le_of_ble_eq_true rfl) (c_X11_hearer N (d + 10) (0 : Int32) (0 : Int32) (-1 : Int32) h_1018.1) (fun _ h => by cases h; exact pr_int) (fun v_1029 n_1029 e_1029 => ?_)
                generalize pat h_1018 n_1029 = hh_1029
                refine dk_gs (fun h_1029 _ => ?_)
                show DOk _ _ _ _ _ (.int v_1029 :: []) _ _
                refine dk_iconst 1033 (-1) dL_law_1032 rfl rfl ?_
                refine dk_icmp_ne 1166 1036 dL_law_1033 (by decide) rfl (fun _ => ?_) (fun _ => ?_)
                · refine dk_iconst 1167 0 dL_law_1166 rfl rfl ?_
                  exact dk_zretc dL_law_1167 rfl rfl
                · refine dk_aload_n 1037 1 dL_law_1036 rfl rfl rfl ?_
                  refine dk_bipush 1039 10 dL_law_1037 rfl rfl ?_
                  refine dk_iconst 1040 1 dL_law_1039 rfl rfl ?_
                  refine dk_iconst 1041 0 dL_law_1040 rfl rfl ?_
                  refine dk_callXV (np := 3) (M' := m_X11_deed) (As := [.int 10, .int 1, .int 0]) (st := []) 1044 dL_law_1041 rfl rfl km_X11_deed ki_X11_deed kv_X11_deed ml_EncoresLaw_156 (by decide) rfl rfl rfl (fun k hk => by simp at hk) (Nat.le_of_ble_eq_true rfl) (c_X11_deed N (d + 10) (10 : Int32) (1 : Int32) (0 : Int32) h_1029.1) (fun _ h => by cases h; exact pr_int) (fun v_1041 n_1041 e_1041 => ?_)
                  generalize pat h_1029 n_1041 = hh_1041
                  refine dk_gs (fun h_1041 _ => ?_)
                  show DOk _ _ _ _ _ (.int v_1041 :: []) _ _
                  refine dk_iconst 1045 (-1) dL_law_1044 rfl rfl ?_
                  refine dk_icmp_ne 1166 1048 dL_law_1045 (by decide) rfl (fun _ => ?_) (fun _ => ?_)
                  · refine dk_iconst 1167 0 dL_law_1166 rfl rfl ?_
                    exact dk_zretc dL_law_1167 rfl rfl
                  · refine dk_aload_n 1049 1 dL_law_1048 rfl rfl rfl ?_
                    refine dk_iconst 1050 0 dL_law_1049 rfl rfl ?_
                    refine dk_iconst 1051 0 dL_law_1050 rfl rfl ?_
                    refine dk_iconst 1052 0 dL_law_1051 rfl rfl ?_
                    refine dk_callXV (np := 3) (M' := m_X11_deed) (As := [.int 0, .int 0, .int 0]) (st := []) 1055 dL_law_1052 rfl rfl km_X11_deed ki_X11_deed kv_X11_deed ml_EncoresLaw_156 (by decide) rfl rfl rfl (fun k hk => by simp at hk) (Nat.le_of_ble_eq_true rfl) (c_X11_deed N (d + 10) (0 : Int32) (0 : Int32) (0 : Int32) h_1041.1) (fun _ h => by cases h; exact pr_int) (fun v_1052 n_1052 e_1052 => ?_)
                    generalize pat h_1041 n_1052 = hh_1052
                    refine dk_gs (fun h_1052 _ => ?_)
                    show DOk _ _ _ _ _ (.int v_1052 :: []) _ _
                    refine dk_iconst 1056 (-1) dL_law_1055 rfl rfl ?_
                    refine dk_icmp_ne 1166 1059 dL_law_1056 (by decide) rfl (fun _ => ?_) (fun _ => ?_)
                    · refine dk_iconst 1167 0 dL_law_1166 rfl rfl ?_
                      exact dk_zretc dL_law_1167 rfl rfl
                    · refine dk_aload_n 1060 1 dL_law_1059 rfl rfl rfl ?_
                      refine dk_iconst 1061 0 dL_law_1060 rfl rfl ?_
                      refine dk_bipush 1063 61 dL_law_1061 rfl rfl ?_
                      refine dk_iconst 1064 0 dL_law_1063 rfl rfl ?_
                      refine dk_callXV (np := 3) (M' := m_X11_deed) (As := [.int 0, .int 61, .int 0]) (st := []) 1067 dL_law_1064 rfl rfl km_X11_deed ki_X11_deed kv_X11_deed ml_EncoresLaw_156 (by decide) rfl rfl rfl (fun k hk => by simp at hk) (Nat.le_of_ble_eq_true rfl) (c_X11_deed N (d + 10) (0 : Int32) (61 : Int32) (0 : Int32) h_1052.1) (fun _ h => by cases h; exact pr_int) (fun v_1064 n_1064 e_1064 => ?_)
                      generalize pat h_1052 n_1064 = hh_1064
                      refine dk_gs (fun h_1064 _ => ?_)
                      show DOk _ _ _ _ _ (.int v_1064 :: []) _ _
                      refine dk_iconst 1068 (-1) dL_law_1067 rfl rfl ?_
                      refine dk_icmp_ne 1166 1071 dL_law_1068 (by decide) rfl (fun _ => ?_) (fun _ => ?_)
                      · refine dk_iconst 1167 0 dL_law_1166 rfl rfl ?_
                        exact dk_zretc dL_law_1167 rfl rfl
                      · refine dk_aload_n 1072 1 dL_law_1071 rfl rfl rfl ?_
                        refine dk_iconst 1073 0 dL_law_1072 rfl rfl ?_
                        refine dk_iconst 1074 1 dL_law_1073 rfl rfl ?_
                        refine dk_bipush 1076 100 dL_law_1074 rfl rfl ?_
                        refine dk_callXV (np := 3) (M' := m_X11_deed) (As := [.int 0, .int 1, .int 100]) (st := []) 1079 dL_law_1076 rfl rfl km_X11_deed ki_X11_deed kv_X11_deed ml_EncoresLaw_156 (by decide) rfl rfl rfl (fun k hk => by simp at hk) (Nat.le_of_ble_eq_true rfl) (c_X11_deed N (d + 10) (0 : Int32) (1 : Int32) (100 : Int32) h_1064.1) (fun _ h => by cases h; exact pr_int) (fun v_1076 n_1076 e_1076 => ?_)
                        generalize pat h_1064 n_1076 = hh_1076
                        refine dk_gs (fun h_1076 _ => ?_)
                        show DOk _ _ _ _ _ (.int v_1076 :: []) _ _
                        refine dk_iconst 1080 (-1) dL_law_1079 rfl rfl ?_
                        refine dk_icmp_ne 1166 1083 dL_law_1080 (by decide) rfl (fun _ => ?_) (fun _ => ?_)
                        · refine dk_iconst 1167 0 dL_law_1166 rfl rfl ?_
                          exact dk_zretc dL_law_1167 rfl rfl
                        · refine dk_aload_n 1084 1 dL_law_1083 rfl rfl rfl ?_
                          refine dk_bipush 1086 6 dL_law_1084 rfl rfl ?_
                          refine dk_iconst 1087 0 dL_law_1086 rfl rfl ?_
                          refine dk_iconst 1088 0 dL_law_1087 rfl rfl ?_
                          refine dk_callXV (np := 3) (M' := m_X11_set) (As := [.int 6, .int 0, .int 0]) (st := []) 1091 dL_law_1088 rfl rfl km_X11_set ki_X11_set kv_X11_set ml_EncoresLaw_161 (by decide) rfl rfl rfl (fun k hk => by simp at hk) (Nat.le_of_ble_eq_true rfl) (c_X11_set N (d + 9) (6 : Int32) (0 : Int32) (0 : Int32) h_1076.1) (fun _ h => by cases h; exact pr_bool) (fun v_1088 n_1088 e_1088 => ?_)
                          generalize pat h_1076 n_1088 = hh_1088
                          refine dk_gs (fun h_1088 _ => ?_)
                          show DOk _ _ _ _ _ (.int v_1088 :: []) _ _
                          refine dk_if_ne 1166 1094 dL_law_1091 (by decide) rfl (fun _ => ?_) (fun _ => ?_)
                          · refine dk_iconst 1167 0 dL_law_1166 rfl rfl ?_
                            exact dk_zretc dL_law_1167 rfl rfl
                          · refine dk_aload_n 1095 1 dL_law_1094 rfl rfl rfl ?_
                            refine dk_iconst 1096 (-1) dL_law_1095 rfl rfl ?_
                            refine dk_callXV (np := 1) (M' := m_X11_perform) (As := [.int (-1)]) (st := []) 1099 dL_law_1096 rfl rfl km_X11_perform ki_X11_perform kv_X11_perform ml_EncoresLaw_201 (by decide) rfl rfl rfl (fun k hk => by simp at hk) (Nat.le_of_ble_eq_true rfl) (c_X11_perform N (d + 5) (-1 : Int32) h_1088.1) (fun _ h => by cases h; exact pr_int) (fun v_1096 n_1096 e_1096 => ?_)
                            generalize pat h_1088 n_1096 = hh_1096
                            refine dk_gs (fun h_1096 _ => ?_)
                            show DOk _ _ _ _ _ (.int v_1096 :: []) _ _
                            refine dk_iconst 1100 (-1) dL_law_1099 rfl rfl ?_
                            refine dk_icmp_ne 1166 1103 dL_law_1100 (by decide) rfl (fun _ => ?_) (fun _ => ?_)
                            · refine dk_iconst 1167 0 dL_law_1166 rfl rfl ?_
                              exact dk_zretc dL_law_1167 rfl rfl
                            · refine dk_aload_n 1104 1 dL_law_1103 rfl rfl rfl ?_
                              refine dk_iconst 1105 (-1) dL_law_1104 rfl rfl ?_
                              refine dk_iconst 1106 1 dL_law_1105 rfl rfl ?_
                              refine dk_callXV (np := 2) (M' := m_X11_pay) (As := [.int (-1), .int 1]) (st := []) 1109 dL_law_1106 rfl rfl km_X11_pay ki_X11_pay kv_X11_pay ml_EncoresLaw_211 (by decide) rfl rfl rfl (fun k hk => by simp at hk) (Nat.le_of_ble_eq_true rfl) (c_X11_pay N (d + 7) (-1 : Int32) (1 : Int32) h_1096.1) (fun _ h => by cases h; exact pr_bool) (fun v_1106 n_1106 e_1106 => ?_)
                              generalize pat h_1096 n_1106 = hh_1106
                              refine dk_gs (fun h_1106 _ => ?_)
                              show DOk _ _ _ _ _ (.int v_1106 :: []) _ _
                              refine dk_if_ne 1166 1112 dL_law_1109 (by decide) rfl (fun _ => ?_) (fun _ => ?_)
                              · refine dk_iconst 1167 0 dL_law_1166 rfl rfl ?_
                                exact dk_zretc dL_law_1167 rfl rfl
                              · refine dk_aload_n 1113 1 dL_law_1112 rfl rfl rfl ?_
                                refine dk_aload_n 1114 2 dL_law_1113 rfl rfl rfl ?_
                                refine dk_getIN 1117 dL_law_1114 rfl rfl FN_EncoresLaw_62 (fun a_1114 _ => ?_)
                                refine dk_iconst 1118 1 dL_law_1117 rfl rfl ?_
                                refine dk_callXV (np := 2) (M' := m_X11_glove) (As := [.int a_1114, .int 1]) (st := []) 1121 dL_law_1118 rfl rfl km_X11_glove ki_X11_glove kv_X11_glove ml_EncoresLaw_215 (by decide) rfl rfl rfl (fun k hk => by simp at hk) (Nat.le_of_ble_eq_true rfl) (c_X11_glove N (d + 6) a_1114 (1 : Int32) h_1106.1) (fun _ h => by cases h; exact pr_bool) (fun v_1118 n_1118 e_1118 => ?_)
                                generalize pat h_1106 n_1118 = hh_1118
                                refine dk_gs (fun h_1118 _ => ?_)
                                show DOk _ _ _ _ _ (.int v_1118 :: []) _ _
                                refine dk_if_ne 1166 1124 dL_law_1121 (by decide) rfl (fun _ => ?_) (fun _ => ?_)
                                · refine dk_iconst 1167 0 dL_law_1166 rfl rfl ?_
                                  exact dk_zretc dL_law_1167 rfl rfl
                                · refine dk_aload_n 1125 1 dL_law_1124 rfl rfl rfl ?_
                                  refine dk_iconst 1126 (-1) dL_law_1125 rfl rfl ?_
                                  refine dk_iconst 1127 0 dL_law_1126 rfl rfl ?_
                                  refine dk_callXV (np := 2) (M' := m_X11_let) (As := [.int (-1), .int 0]) (st := []) 1130 dL_law_1127 rfl rfl km_X11_let ki_X11_let kv_X11_let ml_EncoresLaw_219 (by decide) rfl rfl rfl (fun k hk => by simp at hk) (Nat.le_of_ble_eq_true rfl) (c_X11_let N (d + 6) (-1 : Int32) (0 : Int32) h_1118.1) (fun _ h => by cases h; exact pr_bool) (fun v_1127 n_1127 e_1127 => ?_)
                                  generalize pat h_1118 n_1127 = hh_1127
                                  refine dk_gs (fun h_1127 _ => ?_)
                                  show DOk _ _ _ _ _ (.int v_1127 :: []) _ _
                                  refine dk_if_ne 1166 1133 dL_law_1130 (by decide) rfl (fun _ => ?_) (fun _ => ?_)
                                  · refine dk_iconst 1167 0 dL_law_1166 rfl rfl ?_
                                    exact dk_zretc dL_law_1167 rfl rfl
                                  · refine dk_aload_n 1134 1 dL_law_1133 rfl rfl rfl ?_
                                    refine dk_iconst 1135 0 dL_law_1134 rfl rfl ?_
                                    refine dk_iconst 1136 4 dL_law_1135 rfl rfl ?_
                                    refine dk_callXV (np := 2) (M' := m_X11_book) (As := [.int 0, .int 4]) (st := []) 1139 dL_law_1136 rfl rfl km_X11_book ki_X11_book kv_X11_book ml_EncoresLaw_229 (by decide) rfl rfl rfl (fun k hk => by simp at hk) (Nat.le_of_ble_eq_true rfl) (c_X11_book N (d + 10) (0 : Int32) (4 : Int32) h_1127.1) (fun _ h => by cases h; exact pr_int) (fun v_1136 n_1136 e_1136 => ?_)
                                    generalize pat h_1127 n_1136 = hh_1136
                                    refine dk_gs (fun h_1136 _ => ?_)
                                    show DOk _ _ _ _ _ (.int v_1136 :: []) _ _
                                    refine dk_iconst 1140 (-1) dL_law_1139 rfl rfl ?_
                                    refine dk_icmp_ne 1166 1143 dL_law_1140 (by decide) rfl (fun _ => ?_) (fun _ => ?_)
                                    · refine dk_iconst 1167 0 dL_law_1166 rfl rfl ?_
                                      exact dk_zretc dL_law_1167 rfl rfl
                                    · refine dk_aload_n 1144 1 dL_law_1143 rfl rfl rfl ?_
                                      refine dk_bipush 1146 17 dL_law_1144 rfl rfl ?_
                                      refine dk_callXV (np := 1) (M' := m_X11_look) (As := [.int 17]) (st := []) 1149 dL_law_1146 rfl rfl km_X11_look ki_X11_look kv_X11_look ml_EncoresLaw_226 (by decide) rfl rfl rfl (fun k hk => by simp at hk) (Nat.le_of_ble_eq_true rfl) (c_X11_look N (d + 9) (17 : Int32) h_1136.1) (fun _ h => by cases h; exact pr_int) (fun v_1146 n_1146 e_1146 => ?_)
                                      generalize pat h_1136 n_1146 = hh_1146
                                      refine dk_gs (fun h_1146 _ => ?_)
                                      show DOk _ _ _ _ _ (.int v_1146 :: []) _ _
                                      refine dk_ldc 1151 (-100000) dL_law_1149 rfl rfl cn_EncoresLaw_232 ?_
                                      refine dk_icmp_ne 1166 1154 dL_law_1151 (by decide) rfl (fun _ => ?_) (fun _ => ?_)
                                      · refine dk_iconst 1167 0 dL_law_1166 rfl rfl ?_
                                        exact dk_zretc dL_law_1167 rfl rfl
                                      · refine dk_aload_n 1155 2 dL_law_1154 rfl rfl rfl ?_
                                        refine dk_aload_n 1156 1 dL_law_1155 rfl rfl rfl ?_
                                        refine dk_callV (np := 1) (M' := m_X12_isSame) (As := [.ref 0]) (st := []) 12 1159 dL_law_1156 rfl rfl km_X12_isSame ki_X12_isSame kv_X12_isSame ml_EncoresLaw_179 (by decide) (by decide) rfl rfl rfl (Nat.le_of_ble_eq_true rfl) (dc_X12_isSame N (d + 6) k2_994 h_1146) (fun v_1156 h_1156 e_1156 => ?_)
                                        show DOk _ _ _ _ _ (.int v_1156 :: []) _ _
                                        refine dk_if_eq 1166 1162 dL_law_1159 (by decide) rfl (fun _ => ?_) (fun _ => ?_)
                                        · refine dk_iconst 1167 0 dL_law_1166 rfl rfl ?_
                                          exact dk_zretc dL_law_1167 rfl rfl
                                        · refine dk_iconst 1163 1 dL_law_1162 rfl rfl ?_
                                          refine dk_goto 1167 dL_law_1163 (by decide) ?_
                                          exact dk_zretc dL_law_1167 rfl rfl) N (r_16, 0, 0) h_31
    · refine dk_iconst 28 0 dL_law_27 rfl rfl ?_
      exact dk_zretc dL_law_28 rfl rfl

