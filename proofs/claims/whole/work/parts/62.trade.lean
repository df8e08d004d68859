/-! ===== TRADES: all bells one behind the other ===== -/
theorem mxB_congr {p p' : Nat → Bool} {w w' : Nat → Nat} {v0 v0' : Nat} (hv : v0 = v0') : ∀ k, (∀ b, b < k → p b = p' b ∧ w b = w' b) → mxB p w v0 k = mxB p' w' v0' k
  | 0, _ => hv
  | k + 1, h => by
    rw [mxB_s, mxB_s, mxB_congr hv k (fun b hb => h b (by omega)), (h k (by omega)).1, (h k (by omega)).2]
theorem mxF_congr {f g : Nat → Nat → Bool} {n : Nat} (h : ∀ a b, a < n → b < n → f a b = g a b) : ∀ e T, e ≤ n → mxF f n e T = mxF g n e T
  | 0, _, _ => rfl
  | e + 1, T, he => by
    rw [mxF_s, mxF_s]
    refine mxB_congr (mxF_congr h e T (by omega)) n (fun b hb => ⟨?_, ?_⟩)
    · rw [h _ b (by omega) hb]
    · rw [mxF_congr h e _ (by omega)]
/-- the bell of school s in code c -/
def dg (ns c s : Nat) : Nat := c / 7 ^ (ns - 1 - s) % 7
def alF (g : Nat → Bool) (ns : Nat) : Nat → Bool
  | 0 => true
  | e + 1 => alF g ns e && g (ns - (e + 1))
theorem alF_s (g : Nat → Bool) (ns e : Nat) : alF g ns (e + 1) = (alF g ns e && g (ns - (e + 1))) := rfl
theorem alF_iff {g : Nat → Bool} {ns : Nat} : ∀ e, e ≤ ns → (alF g ns e = true ↔ ∀ s, ns - e ≤ s → s < ns → g s = true)
  | 0, _ => ⟨fun _ s h1 h2 => absurd h1 (by omega), fun _ => rfl⟩
  | e + 1, he => by
    unfold alF
    rw [Bool.and_eq_true, alF_iff e (by omega)]
    constructor
    · rintro ⟨h1, h2⟩ s h3 h4
      by_cases q : s = ns - (e + 1)
      · rw [q]; exact h2
      · exact h1 s (by omega) h4
    · intro h
      exact ⟨fun s h1 h2 => h s (by omega) h2, h _ (Nat.le_refl _) (by omega)⟩
/-- costs and codes by the number of buses -/
abbrev tU : Type := (Nat → Int32) × (Nat → Option Nat)
def tS (al : Nat → Bool) (co : Nat → Int32) (nb : Nat → Nat) : Nat → tU
  | 0 => (fun _ => 2000000000, fun _ => none)
  | c + 1 => if al c && decide (co c < (tS al co nb c).1 (nb c)) then (fup (tS al co nb c).1 (nb c) (co c), fup (tS al co nb c).2 (nb c) (some c)) else tS al co nb c
theorem tS_s (al : Nat → Bool) (co : Nat → Int32) (nb : Nat → Nat) (c : Nat) : tS al co nb (c + 1) = if al c && decide (co c < (tS al co nb c).1 (nb c)) then (fup (tS al co nb c).1 (nb c) (co c), fup (tS al co nb c).2 (nb c) (some c)) else tS al co nb c := rfl
theorem tS_lt {al : Nat → Bool} {co : Nat → Int32} {nb : Nat → Nat} {n c' : Nat} : ∀ c, (tS al co nb c).2 n = some c' → c' < c
  | 0, h => by cases h
  | c + 1, h => by
    rw [tS_s] at h
    split at h
    · by_cases e : n = nb c
      · subst e
        have h : fup (tS al co nb c).2 (nb c) (some c) (nb c) = some c' := h
        rw [fup_eq] at h; cases h; omega
      · have h : fup (tS al co nb c).2 (nb c) (some c) n = some c' := h
        rw [fup_ne e] at h
        have := tS_lt c h; omega
    · have := tS_lt c h; omega
theorem tS_none {al : Nat → Bool} {co : Nat → Int32} {nb : Nat → Nat} {n : Nat} : ∀ c, (tS al co nb c).2 n = none → (tS al co nb c).1 n = 2000000000
  | 0, _ => rfl
  | c + 1, h => by
    rw [tS_s] at h ⊢
    split at h
    · rename_i q
      rw [if_pos q]
      by_cases e : n = nb c
      · subst e
        have h : fup (tS al co nb c).2 (nb c) (some c) (nb c) = none := h
        rw [fup_eq] at h; cases h
      · have h : fup (tS al co nb c).2 (nb c) (some c) n = none := h
        rw [fup_ne e] at h
        show fup (tS al co nb c).1 (nb c) (co c) n = _
        rw [fup_ne e]
        exact tS_none c h
    · rename_i q
      rw [if_neg q]
      exact tS_none c h
/-- the lowest so far, and those that are listed -/
def lsT (best : Nat → Int32) (hi : Int32) : Nat → Int32 × List Nat
  | 0 => (hi, [])
  | k + 1 => if best k < (lsT best hi k).1 then (best k, (lsT best hi k).2 ++ [k]) else lsT best hi k
theorem lsT_s (best : Nat → Int32) (hi : Int32) (k : Nat) : lsT best hi (k + 1) = if best k < (lsT best hi k).1 then (best k, (lsT best hi k).2 ++ [k]) else lsT best hi k := rfl
theorem lsT_len (best : Nat → Int32) (hi : Int32) : ∀ k, (lsT best hi k).2.length ≤ k
  | 0 => Nat.le_refl _
  | k + 1 => by
    have := lsT_len best hi k
    rw [lsT_s]
    split
    · simp; omega
    · omega
theorem lsT_mem {best : Nat → Int32} {hi : Int32} {n : Nat} : ∀ k, n ∈ (lsT best hi k).2 → n < k
  | 0, h => by simp [lsT] at h
  | k + 1, h => by
    rw [lsT_s] at h
    split at h
    · rcases List.mem_append.mp h with q | q
      · have := lsT_mem k q; omega
      · have := List.mem_singleton.mp q; omega
    · have := lsT_mem k h; omega
/-- trades of what I holds -/
def trP (I : Nat → Nat → Int32) (d : pD) (s : Nat) : Int32 := sumB (setOf (I 110) (nI s) d.1) (I 112) d.1
def coM (I : Nat → Nat → Int32) (d : pD) (ns c : Nat) : Int32 := cSum (fun s => cOne (trP I d s) (nI (dg ns c s)) (I 109 s)) ns
def alG (I : Nat → Nat → Int32) (nr ns c : Nat) : Nat → Bool := fun s => decide (permV (I 106 s) (nI (dg ns c s)) (I 114) (I 115) (I 116) nr ≠ 0)
def alW (I : Nat → Nat → Int32) (nr ns c : Nat) : Bool := alF (alG I nr ns c) ns ns
def nbM (I : Nat → Nat → Int32) (d : pD) (cs : Nat → pC) (ns c : Nat) : Nat := (RR d cs (alM I d) ns).length - mxF (mayF d cs (fun s => nI (dg ns c s)) (I 101 9) (RR d cs (alM I d) ns)) (RR d cs (alM I d) ns).length (RR d cs (alM I d) ns).length 0
def tsM (I : Nat → Nat → Int32) (d : pD) (cs : Nat → pC) (ns nr k : Nat) : tU := tS (alW I nr ns) (coM I d ns) (nbM I d cs ns) k
def lsM (I : Nat → Nat → Int32) (d : pD) (cs : Nat → pC) (ns nr k : Nat) : Int32 × List Nat := lsT (tsM I d cs ns nr (7 ^ ns)).1 2000000000 k
/-- the model's rows hold the first k numbers of buses' trades -/
def TRM (I J : Nat → Nat → Int32) (d : pD) (cs : Nat → pC) (ns nr k : Nat) : Prop := J 101 56 = nI (lsM I d cs ns nr k).2.length ∧ ∀ (i n : Nat), (lsM I d cs ns nr k).2[i]? = some n → J 140 i = nI n ∧ J 141 i = (tsM I d cs ns nr (7 ^ ns)).1 n ∧ ∀ c, (tsM I d cs ns nr (7 ^ ns)).2 n = some c → ∀ s, s < ns → J 142 (4 * i + s) = nI (dg ns c s)
theorem mayF_tr {d : pD} {cs : Nat → pC} {tr tr' : Nat → Int32} {sl : Int32} {L : List (Nat × Nat)} {ns : Nat} (hL : ∀ s S, (s, S) ∈ L → s < ns) (h : ∀ s, s < ns → tr s = tr' s) : ∀ a b, a < L.length → b < L.length → mayF d cs tr sl L a b = mayF d cs tr' sl L a b := by
  intro a b ha hb
  have h1 : (rt0 L a).1 < ns := hL (rt0 L a).1 (rt0 L a).2 (List.mem_of_getElem? (rt0_ex ha))
  have h2 : (rt0 L b).1 < ns := hL (rt0 L b).1 (rt0 L b).2 (List.mem_of_getElem? (rt0_ex hb))
  unfold mayF cf1 st1
  rw [h _ h1, h _ h2]
theorem pow7 {ns : Nat} (h : ns ≤ 4) : 7 ^ ns ≤ 2401 := Nat.pow_le_pow_right (n := 7) (by decide) h
