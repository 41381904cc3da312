/-! what a run over the world that grows ends with -/
def Wd (x : DA) (Q : Int32 → DS → Prop) : Prop := ∃ v h, x = some (v, h) ∧ Q v h
section WDS
variable {x y : DA} {Q R : Int32 → DS → Prop} {v a i : Int32} {h h' : DS} {r t n j ci : Nat} {rs : List (Option Nat)} {e : SE}
theorem wd_ret (q : Q v h) : Wd (some (v, h)) Q := ⟨v, h, rfl, q⟩
theorem wd_mono (q : Wd x Q) (k : ∀ v h, Q v h → R v h) : Wd x R := by
  obtain ⟨v, m, e, h2⟩ := q
  exact ⟨v, m, e, k v m h2⟩
theorem wd_bo {α : Type} {y : Option α} {a : α} {f : α → DA} (e : y = some a) (q : Wd (f a) Q) : Wd (bo y f) Q := by
  rw [e]; exact q
theorem wd_bd3 {k : Int32 → DS → DA} (q : Wd x R) (h2 : ∀ v h, R v h → Wd (k v h) Q) : Wd (bd3 x k) Q := by
  obtain ⟨v, m, e, h3⟩ := q
  rw [e]
  exact h2 v m h3
theorem wd_bdX {z : Ans} {k : Int32 → DS → DA} {v : Int32} {ν : Mem} (e : z = some (v, ν)) (q : Wd (k v (pat h ν)) Q) : Wd (bdX z h k) Q := by
  rw [e]; exact q
theorem wd_chk {b : Bool} (hb : b = true) (q : Wd x Q) : Wd (chk b x) Q := by subst hb; exact q
theorem wd_ite {c : Prop} [hd : Decidable c] (h1 : c → Wd x Q) (h2 : ¬ c → Wd y Q) : Wd (if c then x else y) Q := by
  split
  · exact h1 ‹_›
  · exact h2 ‹_›
theorem wd_bnd {α : Type} {e : α} {f : α → DA} (q : Wd (f e) Q) : Wd (bnd e f) Q := q
theorem wd_eq {z : DA} (e : x = z) (q : Wd z Q) : Wd x Q := e ▸ q
theorem wd_jt {α : Type} {b : (α → DS → DA) → α → DS → DA} {Q : Int32 → DS → Prop} (I : Nat → α → DS → Prop)
    (hb : ∀ n X a h, I n a h → (∀ n' a' h', n' < n → I n' a' h' → Wd (X a' h') Q) → Wd (b X a h) Q) : ∀ N n a h, n < N → I n a h → Wd (jt b N a h) Q
  | 0, n, a, h, hn, _ => absurd hn (by omega)
  | N + 1, n, a, h, hn, hi => hb n (jt b N) a h hi (fun n' a' h' h1 h2 => wd_jt I hb N n' a' h' (by omega) h2)
/-! looks -/
theorem e_dI (hs : h.2.1[r]? = some (ci, n, rs)) (hj : j < n) (hr : isR ci j = false) : dI h r ci j = some (h.2.2 r j) := by
  unfold dI
  rw [hs]
  exact if_pos ⟨rfl, hj, hr⟩
theorem e_dR (hs : h.2.1[r]? = some (ci, n, rs)) (hj : j < n) (hr : isR ci j = true) : dR h r ci j = some (rs.getD j none) := by
  unfold dR
  rw [hs]
  exact if_pos ⟨rfl, hj, hr⟩
theorem e_nn {q : Nat} {o : Option (Option Nat)} (e : o = some (some q)) : nn o = some q := by rw [e]; rfl
theorem e_aN (hs : h.2.1[r]? = some (t, n, rs)) : aN h t r = some n := by
  unfold aN
  rw [hs]
  exact if_pos rfl
theorem e_lA (hs : h.2.1[r]? = some (t, n, rs)) (hi : inb i n = true) : lA h t r i = some (h.2.2 r i.toNatClampNeg) := by
  unfold lA
  rw [e_aN hs]
  exact if_pos hi
theorem e_lQ {q : Nat} (hs : h.2.1[r]? = some (t, n, rs)) (hi : inb i n = true) (hq : rs.getD i.toNatClampNeg none = some q) : lQ h t r i = some q := by
  unfold lQ
  rw [hs]
  exact (if_pos ⟨rfl, hi⟩).trans hq
theorem e_isT (hs : h.2.1[r]? = some (t, n, rs)) : isT h t r = true := by
  unfold isT
  rw [hs]
  exact decide_eq_true rfl
/-! writes -/
theorem e_wI (hs : h.2.1[r]? = some (ci, n, rs)) (hj : j < n) (hr : isR ci j = false) (h123 : 123 ≤ r) : wI h r ci j v = some (h.1, h.2.1, mset h.2.2 r j v) := by
  unfold wI
  rw [hs]
  exact if_pos ⟨⟨rfl, hj, hr⟩, h123⟩
theorem e_wR {o : Option Nat} (hs : h.2.1[r]? = some (ci, n, rs)) (hj : j < n) (hr : isR ci j = true) (h123 : 123 ≤ r) (hl : j < rs.length) (ho : ∀ q, o = some q → q < h.2.1.length) : wR h r ci j o = some (h.1, h.2.1.set r (ci, n, rs.set j o), h.2.2) := by
  unfold wR
  rw [hs]
  exact if_pos ⟨⟨⟨rfl, hj, hr⟩, h123⟩, hl, fun q hq => ho q hq⟩
theorem e_sA (hs : h.2.1[r]? = some (t, n, rs)) (hi : inb i n = true) (h123 : 123 ≤ r) : sA h t r i v = some (h.1, h.2.1, mset h.2.2 r i.toNatClampNeg v) := by
  unfold sA
  rw [e_aN hs]
  exact if_pos ⟨hi, h123⟩
theorem e_sQ {q : Nat} {e1 : SE} (hs : h.2.1[r]? = some (t, n, rs)) (hq : h.2.1[q]? = some e1) (he : e1.1 = elT t) (hi : inb i n = true) (h123 : 123 ≤ r) (hl : i.toNatClampNeg < rs.length) : sQ h t r i q = some (h.1, h.2.1.set r (t, n, rs.set i.toNatClampNeg (some q)), h.2.2) := by
  unfold sQ
  rw [hs, hq]
  exact if_pos ⟨⟨rfl, hi, h123⟩, hl, he⟩
def grown (h : DS) (e : SE) (f : Nat → Int32) : DS := (h.1, h.2.1 ++ [e], fun a j => if a = h.2.1.length then f j else h.2.2 a j)
theorem e_gr0 {f : Nat → Int32} (hl : h.2.1.length + 1 < 1000000) : addC h e f = some (grown h e f) := if_pos hl
theorem e_nO {N : Nat} (hl : h.2.1.length + 1 < 1000000) : nO h ci N = some (grown h (ci, N, List.replicate N none) (fun _ => 0)) := e_gr0 hl
theorem e_nA (h0 : ¬ a < 0) (hb : a.toNatClampNeg * 4 ≤ 536870912) (hl : h.2.1.length + 1 < 1000000) : nA h t a = some (grown h (t, a.toNatClampNeg, []) (fun _ => 0)) := by
  unfold nA
  rw [if_pos ⟨h0, hb⟩]
  exact e_gr0 hl
theorem e_nQ (h0 : ¬ a < 0) (hb : a.toNatClampNeg * 4 ≤ 536870912) (hl : h.2.1.length + 1 < 1000000) : nQ h t a = some (grown h (t, a.toNatClampNeg, List.replicate a.toNatClampNeg none) (fun _ => 0)) := by
  unfold nQ
  rw [if_pos ⟨h0, hb⟩]
  exact e_gr0 hl
theorem e_cA (hs : h.2.1[r]? = some (t, n, rs)) (hl : h.2.1.length + 1 < 1000000) : cA h t r = some (grown h (t, n, []) (h.2.2 r)) := by
  unfold cA
  rw [e_aN hs]
  exact e_gr0 hl
/-! how a grown state looks -/
theorem gw_new {f : Nat → Int32} : (grown h e f).2.1[h.2.1.length]? = some e := by simp [grown]
theorem gw_len {f : Nat → Int32} : (grown h e f).2.1.length = h.2.1.length + 1 := by simp [grown]
theorem gw_old {f : Nat → Int32} (hr : r < h.2.1.length) : (grown h e f).2.1[r]? = h.2.1[r]? := by
  show (h.2.1 ++ [e])[r]? = _
  rw [List.getElem?_append_left hr]
theorem gw_at {f : Nat → Int32} {e1 : SE} (hs : h.2.1[r]? = some e1) : (grown h e f).2.1[r]? = some e1 := (gw_old (List.getElem?_eq_some_iff.mp hs).1).trans hs
theorem gw_mo {f : Nat → Int32} (hr : r < h.2.1.length) : (grown h e f).2.2 r = h.2.2 r := by
  funext j
  show (if r = h.2.1.length then f j else h.2.2 r j) = _
  rw [if_neg (by omega)]
theorem gw_mn {f : Nat → Int32} : (grown h e f).2.2 h.2.1.length = f := by
  funext j
  show (if h.2.1.length = h.2.1.length then f j else h.2.2 h.2.1.length j) = _
  rw [if_pos rfl]
end WDS
