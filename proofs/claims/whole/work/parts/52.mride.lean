/-! ===== routes of the plan ===== -/
theorem rtL_mem {rt : Nat → Bool} {le : Nat → Int32} : ∀ n S P, S < 1024 → (pB rt le S).1 < 1000000 → P ∈ rtL rt le n S → bdiff P S = 0 ∧ rt P = true ∧ P ≠ 0
  | 0, S, P, _, _, h => by simp [rtL] at h
  | n + 1, S, P, hS, hp, h => by
    unfold rtL at h
    by_cases h0 : S = 0
    · rw [if_pos h0] at h; simp at h
    · rw [if_neg h0] at h
      obtain ⟨m, hm⟩ := pB_lt hS hp
      obtain ⟨hc, m', e1, e2, e3⟩ := hm.2.2 h0
      obtain ⟨c1, c2, c3⟩ := cdP_1 hc
      rcases List.mem_cons.mp h with e | h
      · rw [e]
        refine ⟨c1, c3, fun q => ?_⟩
        rw [q] at c2; simp at c2
      · have hlt := bdiff_lt2 (loI_tb S hS h0).1 c2
        have hb := cdB_bound S 10
        obtain ⟨a, b, c⟩ := rtL_mem n _ P (by omega) (by rw [e2]; exact nI_far (by have := hm.1; omega)) h
        exact ⟨bsub_tr a (bdiff_sub _ _), b, c⟩
theorem RR_mem {d : pD} {cs : Nat → pC} {al : Nat → Nat} (hal : ∀ s, al s < 1024) : ∀ k s S, (s, S) ∈ RR d cs al k → s < k ∧ S ≠ 0 ∧ S < 1024 ∧ bdiff S (al s) = 0 ∧ rS d (cs s) S = true ∧ (pS d (cs s) (al s)).1 < 1000000 ∧ S ∈ RLs d (cs s) (al s)
  | 0, s, S, h => by simp [RR] at h
  | k + 1, s, S, h => by
    simp only [RR, List.mem_append, List.mem_map] at h
    rcases h with h | ⟨P, hP, e⟩
    · obtain ⟨a, b⟩ := RR_mem hal k s S h
      exact ⟨by omega, b⟩
    · simp only [Prod.mk.injEq] at e
      obtain ⟨rfl, rfl⟩ := e
      have hP0 := hP
      unfold RLs at hP
      by_cases hp : (pS d (cs k) (al k)).1 < 1000000
      · rw [if_pos hp] at hP
        obtain ⟨a, b, c⟩ := rtL_mem 10 _ P (hal k) hp hP
        exact ⟨by omega, c, Nat.lt_of_le_of_lt (bsub_le a) (hal k), a, b, hp, hP0⟩
      · rw [if_neg hp] at hP; simp at hP
theorem RR_pre {d : pD} {cs : Nat → pC} {al : Nat → Nat} {s : Nat} : ∀ k, s ≤ k → ∃ L, RR d cs al k = RR d cs al s ++ L
  | 0, h => ⟨[], by rw [show s = 0 by omega]; simp⟩
  | k + 1, h => by
    by_cases e : s = k + 1
    · exact ⟨[], by rw [e]; simp⟩
    · obtain ⟨L, hL⟩ := RR_pre (d := d) (cs := cs) (al := al) (s := s) k (by omega)
      exact ⟨L ++ (RLs d (cs k) (al k)).map (fun S => (k, S)), by simp only [RR]; rw [hL, List.append_assoc]⟩
theorem RR_get {d : pD} {cs : Nat → pC} {al : Nat → Nat} {k s i S : Nat} (hs : s < k) (h : (RLs d (cs s) (al s))[i]? = some S) : (RR d cs al k)[(RR d cs al s).length + i]? = some (s, S) := by
  obtain ⟨L, e⟩ := RR_pre (d := d) (cs := cs) (al := al) (s := s + 1) k hs
  rw [e]
  simp only [RR]
  rw [List.append_assoc, List.getElem?_append_right (by omega), show (RR d cs al s).length + i - (RR d cs al s).length = i by omega, List.getElem?_append_left (by rw [List.length_map]; exact (List.getElem?_eq_some_iff.mp h).1), List.getElem?_map, h]
  rfl
theorem nxt_ex {d : pD} {c : pC} {S : Nat} {bh : Option Nat} (h0 : S ≠ 0) (hb : ∀ i, S.testBit i = true → i < d.1) : ∃ g, nxt d c S bh = some g ∧ S.testBit g = true ∧ g < d.1 := by
  cases h : nxt d c S bh with
  | none =>
    obtain ⟨i, hi⟩ := Nat.exists_testBit_of_ne_zero h0
    rw [nxt_none h i (hb i hi)] at hi; cases hi
  | some g => exact ⟨g, rfl, (nxt_tb h).2, (nxt_tb h).1⟩
theorem cdB_pos {S t k : Nat} (h : S.testBit t = true) (hk : t < k) : 1 ≤ cdB S k := by
  have := cdB_lt h h k hk
  omega
/-- the ride of stop t by the routes L -/
def rideL (d : pD) (cs : Nat → pC) (t : Nat) : List (Nat × Nat) → Int32
  | [] => 0
  | p :: L => if p.2.testBit t then rideP d (cs p.1) t 10 p.2 none else rideL d cs t L
abbrev alM (I : Nat → Nat → Int32) (d : pD) : Nat → Nat := fun s => setOf (I 110) (nI s) d.1
/-- the model's data are well formed -/
def MW (I : Nat → Nat → Int32) (ns nstr nc : Nat) (d : pD) (cs : Nat → pC) (fr to : Nat → Nat) : Prop := I 101 2 = nI ns ∧ ns ≤ 4 ∧ I 101 1 = nI nstr ∧ nstr ≤ 14 ∧ nc ≤ 8 ∧ (∀ s, s < nstr → fr s < nc ∧ to s < nc ∧ I 102 s = nI (fr s) ∧ I 103 s = nI (to s)) ∧ d.2.2.1 = dTab fr to (I 104) (I 105) 0 nstr ∧ I 101 3 = nI d.1 ∧ d.1 ≤ 10 ∧ (∀ k, k < d.1 → d.2.1 k < 8 ∧ I 111 k = nI (d.2.1 k)) ∧ (∀ k, k < d.1 → I 112 k = d.2.2.2.1 k) ∧ I 101 7 = d.2.2.2.2 ∧ ∀ s, s < ns → mdC I s (cs s)
/-- the model's plan stands, its distances are plain -/
def MS (I : Nat → Nat → Int32) (ns : Nat) (d : pD) (cs : Nat → pC) (al : Nat → Nat) : Prop := I 101 2 = nI ns ∧ ns ≤ 4 ∧ mdD I d ∧ (∀ s, s < ns → mdC I s (cs s)) ∧ PlM I d cs al ns ∧ (∀ s, al s < 1024) ∧ (RR d cs al ns).length ≤ 10 ∧ ∀ s i, (al s).testBit i = true → i < d.1
def FrP (I J : Nat → Nat → Int32) : Prop := (∀ q i, ¬ (121 ≤ q ∧ q ≤ 131) → ¬ (q = 101 ∧ (i = 29 ∨ i = 42 ∨ i = 43)) → J q i = I q i) ∧ ¬ J 101 29 = 0
theorem al_lt {f : Nat → Int32} {s n : Nat} (h : n ≤ 10) : setOf f (nI s) n < 1024 := Nat.lt_of_lt_of_le (setOf_lt _ _ _) (pow10' h)
theorem PlM_fr {I J : Nat → Nat → Int32} {d : pD} {cs : Nat → pC} {al : Nat → Nat} {k : Nat} (hn : d.1 ≤ 10) (h : PlM I d cs al k) (hq : ∀ q i, (122 ≤ q ∧ q ≤ 131) ∨ (q = 101 ∧ (i = 42 ∨ i = 43)) → J q i = I q i) : PlM J d cs al k :=
  ⟨⟨(hq 124 0 (by omega)).trans h.1.1, (hq 125 0 (by omega)).trans h.1.2⟩, fun s hs S h1 h2 => TabM_fr hn (h.2.1 s hs S h1 h2) (fun f _ => hq 122 _ (by omega)) (fun q a b => hq q S (by omega)), ⟨(hq 101 42 (by omega)).trans h.2.2.1.1, fun r s S hr => by rw [hq 127 r (by omega), hq 128 r (by omega), hq 129 r (by omega)]; exact h.2.2.1.2 r s S hr⟩, fun s hs => by rw [hq 130 s (by omega), hq 131 s (by omega)]; exact h.2.2.2.1 s hs, (hq 101 43 (by omega)).trans h.2.2.2.2⟩
theorem MS_rt {I : Nat → Nat → Int32} {ns : Nat} {d : pD} {cs : Nat → pC} {al : Nat → Nat} {r s S : Nat} (h : MS I ns d cs al) (hr : (RR d cs al ns)[r]? = some (s, S)) : s < ns ∧ S < 1024 ∧ S ≠ 0 ∧ bdiff S (al s) = 0 ∧ r < (RR d cs al ns).length ∧ r < 10 ∧ I 127 r = nI S ∧ I 128 r = nI s ∧ I 129 r = lS d (cs s) S := by
  have hm := RR_mem h.2.2.2.2.2.1 ns s S (List.mem_of_getElem? hr)
  have hl := (List.getElem?_eq_some_iff.mp hr).1
  have h10 := h.2.2.2.2.2.2.1
  exact ⟨hm.1, hm.2.2.1, hm.2.1, hm.2.2.2.1, hl, by omega, h.2.2.2.2.1.2.2.1.2 r s S hr⟩
theorem MS_tab {I : Nat → Nat → Int32} {ns : Nat} {d : pD} {cs : Nat → pC} {al : Nat → Nat} {s R g : Nat} (h : MS I ns d cs al) (hs : s < ns) (hR : bdiff R (al s) = 0) (hg : g < d.1) (hb : R.testBit g = true) : I 122 (10 * R + g) = fS d (cs s) R g :=
  (h.2.2.2.2.1.2.1 s hs R (fun q => by rw [q] at hb; simp at hb) hR).1 g hg hb
theorem bsub_tb {R S i : Nat} (h : bdiff R S = 0) (hi : R.testBit i = true) : S.testBit i = true := by
  have a := bdiff_tb R S i
  rw [h, Nat.zero_testBit, hi] at a
  simpa using a
theorem MS_bit {I : Nat → Nat → Int32} {ns : Nat} {d : pD} {cs : Nat → pC} {al : Nat → Nat} {s R g : Nat} (h : MS I ns d cs al) (hR : bdiff R (al s) = 0) (hb : R.testBit g = true) : g < d.1 := h.2.2.2.2.2.2.2 s g (bsub_tb hR hb)
section MRD
variable {z : Nat × (Nat → Int32)} {n : Nat} {mem : aM} {I : Nat → Nat → Int32} {sp : Nat → Nat} {pl : Bool} {Q : Option Value → Nat → aM → Prop} {R : Room}
theorem m_planS (ns nstr nc : Nat) (d : pD) (cs : Nat → pC) (fr to : Nat → Nat) (hW : MW I ns nstr nc d cs fr to) (hst : ¬ I 101 29 = 0 → PlM I d cs (alM I d) ns) (hQ : ∀ J, FrP I J → MS J ns d cs (alM I d) → Q none (nn pl) (MM J sp pl)) : aRuns mX12_plan (rK 4) [.ref 101] (nn pl) (MM I sp pl) Q := by
  obtain ⟨w1, w2, w3, w4, w5, w6, w7, w8, w9, w10, w11, w12, w13⟩ := hW
  have hal : ∀ s, alM I d s < 1024 := fun s => al_lt w9
  have hlen : (RR d cs (alM I d) ns).length ≤ 10 := by
    have a1 := RR_len (d := d) (cs := cs) hal ns
    have a2 := sumC_card (I 110) d.1 ns (by omega) 10
    exact Nat.le_trans a1 (Nat.le_trans a2 (by omega))
  have hbit : ∀ s i, (alM I d s).testBit i = true → i < d.1 := fun s i h => by
    rw [setOf_tb] at h; simp at h; exact h.1
  have mk : ∀ J : Nat → Nat → Int32, (∀ q i, ¬ (121 ≤ q ∧ q ≤ 131) → ¬ (q = 101 ∧ (i = 29 ∨ i = 42 ∨ i = 43)) → J q i = I q i) → (∀ a b, a < 8 → b < 8 → J 121 (8 * a + b) = d.2.2.1 a b) → PlM J d cs (alM I d) ns → MS J ns d cs (alM I d) := fun J hJ hf hp =>
    ⟨(hJ 101 2 (by omega) (by omega)).trans w1, w2, ⟨⟨(hJ 101 3 (by omega) (by omega)).trans w8, w9, fun k hk => ⟨(w10 k hk).1, (hJ 111 k (by omega) (by omega)).trans (w10 k hk).2⟩, hf⟩, fun k hk => (hJ 112 k (by omega) (by omega)).trans (w11 k hk), (hJ 101 7 (by omega) (by omega)).trans w12⟩, fun s hs => ⟨(w13 s hs).1, (hJ 107 s (by omega) (by omega)).trans (w13 s hs).2.1, by rw [hJ 106 s (by omega) (by omega), hJ 101 8 (by omega) (by omega)]; exact (w13 s hs).2.2⟩, hp, hal, hlen, hbit⟩
  refine m_plan ns nstr nc d cs fr to w1 w2 w3 w4 w5 w6 w7 w8 w9 w10 w11 w12 w13 (fun h => hQ _ ⟨fun q i h1 h2 => pfk_o (by omega), by rw [pfk_o (by decide)]; exact h⟩ (mk _ (fun q i h1 h2 => pfk_o (by omega)) (fun a b ha hb => by rw [w7]; exact pfk_at ha hb) (PlM_fr w9 (hst h) (fun q i h => pfk_o (by omega))))) (fun h J h1 h2 => ?_)
  have hJ : ∀ q i, ¬ (121 ≤ q ∧ q ≤ 131) → ¬ (q = 101 ∧ (i = 29 ∨ i = 42 ∨ i = 43)) → J q i = I q i := fun q i a b => by
    rw [h1 q i (by omega) (by omega), iu_ne (by omega), pfk_o (by omega)]
  exact hQ J ⟨hJ, by rw [h1 101 29 (by omega) (by omega), iu_eq]; decide⟩ (mk J hJ (fun a b ha hb => by rw [h1 121 _ (by omega) (by omega), iu_ne (by omega), w7]; exact pfk_at ha hb) h2)
theorem l_ridew (ns : Nat) (d : pD) (cs : Nat → pC) (al : Nat → Nat) (s t r : Nat) (hM : MS I ns d cs al) (hs : s < ns) (ht : t < d.1) : ∀ (n S : Nat) (bh : Option Nat), cdB S 10 ≤ n → S.testBit t = true → bdiff S (al s) = 0 → (∀ b, bh = some b → b < d.1) → qi Q (rideP d (cs s) t n S bh) I sp pl → aE z mX12_rideOf (rK 3) Q 36 [some (.ref 101), some (.int (nI t)), some (.int (nI r)), some (.int (nI S)), some (.int (rv (nxt d (cs s) S bh)))] [] (nn pl) (MM I sp pl) 0 0 := by
  have h10 := hM.2.2.1.1.2.1
  intro n
  induction n with
  | zero =>
    intro S bh hn hb
    have := cdB_pos hb (show t < 10 by omega)
    omega
  | succ n ih =>
    intro S bh hn hb hsub hbh hQ
    have hS : S < 1024 := Nat.lt_of_le_of_lt (bsub_le hsub) (hM.2.2.2.2.2.1 s)
    obtain ⟨g, hg, hgb, hgn⟩ := nxt_ex (d := d) (c := cs s) (S := S) (bh := bh) (fun q => by rw [q] at hb; simp at hb) (fun i hi => MS_bit hM hsub hi)
    unfold rideP at hQ
    rw [hg] at hQ ⊢
    dsimp only at hQ
    by_cases e : g = t
    · subst e
      rw [if_pos rfl] at hQ
      refine aE_iload dX12_rideOf_36 rfl ?_
      refine aE_iload_n dX12_rideOf_38 rfl rfl ?_
      refine aE_icmp_eq (tgt := 63) dX12_rideOf_39 (by decide) (fun h39 => ?_) (fun h39 => absurd (rfl) h39)
      refine aE_aload_n dX12_rideOf_63 rfl rfl ?_
      refine aE_getf (v := .ref 122) dX12_rideOf_64 fw_X12_78 (lt_nn (by decide)) rfl rfl ?_
      refine aE_bipush (v := 10) dX12_rideOf_67 (by decide) ?_
      refine aE_iload_n dX12_rideOf_69 rfl rfl ?_
      refine aE_imul dX12_rideOf_70 ?_
      refine aE_top (x' := nI (10 * S)) (by rw [show (10 : Int32) = nI 10 from rfl, pk_mul]) ?_
      refine aE_iload_n dX12_rideOf_71 rfl rfl ?_
      refine aE_iadd dX12_rideOf_72 ?_
      refine aE_top (nI_add (10 * S) g) ?_
      refine aE_ildM dX12_rideOf_73 (lt_nn (by decide)) rfl (by decide) rfl (by omega) ?_
      refine aE_top (x' := fS d (cs s) S g) (MS_tab hM hs hsub hgn hgb) ?_
      refine aE_iret dX12_rideOf_74 rfl ⟨by decide, by decide⟩ ?_
      exact hQ
    · rw [if_neg e] at hQ
      have hlt := cdB_lt hgb (Nat.testBit_two_pow_self (n := g)) 10 (by omega)
      have hb2 : (bdiff S (2 ^ g)).testBit t = true := by
        rw [bdiff_tb, hb, Nat.testBit_two_pow]; simp [e]
      have hsub2 := bsub_tr (bdiff_sub S (2 ^ g)) hsub
      have hle := bdiff_le S (2 ^ g)
      have h36 := ih (bdiff S (2 ^ g)) (some g) (by omega) hb2 hsub2 (fun b hb => by cases hb; exact hgn) hQ
      refine aE_iload dX12_rideOf_36 rfl ?_
      refine aE_iload_n dX12_rideOf_38 rfl rfl ?_
      refine aE_icmp_eq (tgt := 63) dX12_rideOf_39 (by decide) (fun h39 => absurd h39 (fun q => e ((nI_eq (by omega) (by omega)).mp q))) (fun h39 => ?_)
      refine aE_iload_n dX12_rideOf_42 rfl rfl ?_
      refine aE_iconst (v := 1) dX12_rideOf_43 rfl ?_
      refine aE_iload dX12_rideOf_44 rfl ?_
      refine aE_ishl dX12_rideOf_46 ?_
      refine aE_top (nb_1shl (by omega)) ?_
      refine aE_iconst (v := -1) dX12_rideOf_47 rfl ?_
      refine aE_ixor dX12_rideOf_48 ?_
      refine aE_iand dX12_rideOf_49 ?_
      refine aE_top (nb_andn _ _) ?_
      refine aE_istore_n dX12_rideOf_50 rfl (by decide) rfl (aE_loc (ls' := [_, _, _, _, _]) rfl ?_)
      refine aE_aload_n dX12_rideOf_51 rfl rfl ?_
      refine aE_iload_n dX12_rideOf_52 rfl rfl ?_
      refine aE_iload dX12_rideOf_53 rfl ?_
      refine aE_cVi dX12_rideOf_55 lk_X12_246 mv_X12_nextStop (m_nextStop d (cs s) (bdiff S (2 ^ g)) (some g) hM.2.2.1.1 (by omega) (fun b hb => by cases hb; exact hgn) (fun g2 h1 h2 => MS_tab hM hs hsub2 h1 h2)) rfl (lt_nn (by decide)) rfl rfl ⟨by decide, by decide⟩ (Nat.le_of_ble_eq_true rfl) ⟨rfl, rfl⟩ ⟨by decide, by decide⟩ ?_
      refine aE_istore dX12_rideOf_58 (by decide) rfl (aE_loc (ls' := [_, _, _, _, _]) rfl ?_)
      refine aE_goto (tgt := 36) dX12_rideOf_60 (by decide) ?_
      exact h36
theorem l_rideOf (ns : Nat) (d : pD) (cs : Nat → pC) (al : Nat → Nat) (t : Nat) (hM : MS I ns d cs al) (ht : t < d.1) : ∀ (e r : Nat), r + e = (RR d cs al ns).length → qi Q (rideL d cs t ((RR d cs al ns).drop r)) I sp pl → ∀ l3 l4, aE z mX12_rideOf (rK 3) Q 2 [some (.ref 101), some (.int (nI t)), some (.int (nI r)), l3, l4] [] (nn pl) (MM I sp pl) 0 0 := by
  have h10 := hM.2.2.1.1.2.1
  have hR := hM.2.2.2.2.1.2.2.1.1
  have hR10 := hM.2.2.2.2.2.2.1
  intro e
  induction e with
  | zero =>
    intro r hr hQ l3 l4
    rw [show r = (RR d cs al ns).length by omega, List.drop_length] at hQ
    refine aE_iload_n dX12_rideOf_2 rfl rfl ?_
    refine aE_aload_n dX12_rideOf_3 rfl rfl ?_
    refine aE_geti dX12_rideOf_4 fw_X12_230 (lt_nn (by decide)) rfl (by decide) rfl ?_
    refine aE_icmp_ge (tgt := 81) dX12_rideOf_7 (by decide) (fun h7 => ?_) (fun h7 => absurd (by rw [hR]; exact nI_le (by omega) (by omega)) h7)
    refine aE_iconst (v := 0) dX12_rideOf_81 rfl ?_
    refine aE_iret dX12_rideOf_82 rfl ⟨by decide, by decide⟩ ?_
    exact hQ
  | succ e ih =>
    intro r hr hQ l3 l4
    have hlt : r < (RR d cs al ns).length := by omega
    rw [List.drop_eq_getElem_cons hlt] at hQ
    obtain ⟨s, S, hsS⟩ : ∃ s S, (RR d cs al ns)[r] = (s, S) := ⟨_, _, rfl⟩
    have hget : (RR d cs al ns)[r]? = some (s, S) := by rw [List.getElem?_eq_getElem hlt, hsS]
    obtain ⟨k1, k2, k3, k4, k5, k6, k7, k8, k9⟩ := MS_rt hM hget
    rw [hsS] at hQ
    unfold rideL at hQ
    refine aE_iload_n dX12_rideOf_2 rfl rfl ?_
    refine aE_aload_n dX12_rideOf_3 rfl rfl ?_
    refine aE_geti dX12_rideOf_4 fw_X12_230 (lt_nn (by decide)) rfl (by decide) rfl ?_
    refine aE_icmp_ge (tgt := 81) dX12_rideOf_7 (by decide) (fun h7 => absurd h7 (by rw [hR]; exact nI_ge (by omega) (by omega))) (fun h7 => ?_)
    refine aE_aload_n dX12_rideOf_10 rfl rfl ?_
    refine aE_getf (v := .ref 127) dX12_rideOf_11 fw_X12_93 (lt_nn (by decide)) rfl rfl ?_
    refine aE_iload_n dX12_rideOf_14 rfl rfl ?_
    refine aE_ildM dX12_rideOf_15 (lt_nn (by decide)) rfl (by decide) rfl (by omega) ?_
    refine aE_top k7 ?_
    refine aE_istore_n dX12_rideOf_16 rfl (by decide) rfl (aE_loc (ls' := [_, _, _, _, _]) rfl ?_)
    refine aE_iload_n dX12_rideOf_17 rfl rfl ?_
    refine aE_iload_n dX12_rideOf_18 rfl rfl ?_
    refine aE_cSi dX12_rideOf_19 lk_X12_206 ms_X12_has (m_has S t (by omega) (by omega)) rfl rfl ⟨by decide, by decide⟩ (Nat.le_of_ble_eq_true rfl) ⟨rfl, rfl⟩ ⟨by decide, by decide⟩ ?_
    refine aE_if_ne (tgt := 28) dX12_rideOf_22 (by decide) (fun h22 => ?_) (fun h22 => ?_)
    · skip
      have hb := tb_of h22
      rw [if_pos hb] at hQ
      refine aE_aload_n dX12_rideOf_28 rfl rfl ?_
      refine aE_iload_n dX12_rideOf_29 rfl rfl ?_
      refine aE_iconst (v := -1) dX12_rideOf_30 rfl ?_
      refine aE_cVi dX12_rideOf_31 lk_X12_246 mv_X12_nextStop (m_nextStop d (cs s) S none hM.2.2.1.1 k2 (fun b hb => by cases hb) (fun g h1 h2 => MS_tab hM k1 k4 h1 h2)) rfl (lt_nn (by decide)) rfl rfl ⟨by decide, by decide⟩ (Nat.le_of_ble_eq_true rfl) ⟨rfl, rfl⟩ ⟨by decide, by decide⟩ ?_
      refine aE_istore dX12_rideOf_34 (by decide) rfl (aE_loc (ls' := [_, _, _, _, _]) rfl ?_)
      exact l_ridew ns d cs al s t r hM k1 ht 10 S none (cdB_bound S 10) hb k4 (fun b hb => by cases hb) hQ
    · skip
      have hb := tb_no (by first | exact h22 | exact Classical.not_not.mp h22)
      rw [if_neg hb] at hQ
      refine aE_goto (tgt := 75) dX12_rideOf_25 (by decide) ?_
      refine aE_iinc dX12_rideOf_75 rfl (a_inc _) (by decide) rfl (aE_loc (ls' := [_, _, _, _, _]) rfl ?_)
      refine aE_goto (tgt := 2) dX12_rideOf_78 (by decide) ?_
      exact ih (r + 1) (by omega) hQ _ _
theorem m_rideOf (ns : Nat) (d : pD) (cs : Nat → pC) (al : Nat → Nat) (t : Nat) (hM : MS I ns d cs al) (ht : t < d.1) : aRuns mX12_rideOf (rK 3) [.ref 101, .int (nI t)] (nn pl) (MM I sp pl) (a_ri (rideL d cs t (RR d cs al ns)) (nn pl) (MM I sp pl)) := by
  refine aRuns_of pn_X12_rideOf (Nat.le_of_ble_eq_true rfl) (fun z => aE_loc (ls' := [_, _, _, _, _]) rfl ?_)
  refine aE_iconst (v := 0) dX12_rideOf_0 rfl ?_
  refine aE_istore_n dX12_rideOf_1 rfl (by decide) rfl (aE_loc (ls' := [_, _, _, _, _]) rfl ?_)
  exact l_rideOf ns d cs al t hM ht (RR d cs al ns).length 0 (by omega) ⟨rfl, rfl, rfl⟩ _ _
end MRD
