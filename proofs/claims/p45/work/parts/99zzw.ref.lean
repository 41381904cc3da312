/-! a call that is refused -/
section REFUSE
variable {h h' : DS} {N t : Nat} {p : Plc} {w : Arr} {dl : Option (Nat → Int32)} {LN : List Lin} {lb : Nat → Nat × Nat × Nat} {Q : Int32 → DS → Prop} {v : Int32}
theorem wd_ref {x y : Mem → Ans} {k : Int32 → DS → DA} (I : TI LN dl lb t p w h) (P : Pr x y) (gx : PsG h.1 (x h.1)) (gy : ∀ m, PsA m (y m)) (e : ∀ m1 : Mem, m1 124 = w → y m1 = some (v, m1))
    (q : ∀ h', TI LN dl lb t p w h' → h'.2.1 = h.2.1 → (∀ c, 123 ≤ c → h'.1 c = h.1 c) → Wd (k v h') Q) : Wd (chk (isT h 11 0) <| bdX (x h.1) h fun v hh => bnd (gs y hh) fun h' => k v h') Q := by
  obtain ⟨H, bp, I0, ew, L, h16⟩ := I
  refine wd_chk (is11 H.2.2.1) ?_
  refine wd_call P gx gy I0 (fun v2 m1 m2 G e5 I2 => ?_)
  have em : m1 124 = w := by rw [G 124 (by decide)]; exact ew
  rw [e m1 em] at e5
  obtain rfl : v = v2 := congrArg Prod.fst (Option.some.inj e5)
  obtain rfl : m1 = m2 := congrArg Prod.snd (Option.some.inj e5)
  exact q _ ⟨H.pat bp, bp, I2, em, L, by
    show m1 123 16 = nI 0
    rw [G 123 (by decide)]
    exact h16⟩ rfl (fun c hc => G c hc)
end REFUSE
