/-- what a new row changes of the reference -/
def MOrow (mo mo' : MOt) : Prop := ∃ (f1 : Nat → Int32) (f2 f3 : Nat → Int64) (f4 f5 : Nat → Int32) (n m : Int32), mo' = sMO_came (sMO_rows (sMO_rNumber (sMO_rCame (sMO_rValue (sMO_rTime (sMO_rKey mo f1) f2) f3) f4) f5) n) m
theorem p_addRow (k : Nat) (hk : 5000 ≤ k) {q : Nat} (hq : q < 8) (t v : Int64) {L : List (Nat × Nat)} {rs : RSt} {mo : MOt} (h : RR L rs mo) (hl : L.length < 300) {C : Nat} (hC : MO_came mo = nI C) (hC2 : C < 2000000) :
    ∃ (c r : Nat) (A B : List (Nat × Nat)) (rs' : RSt) (mo1 : MOt), L = A ++ B ∧ c < 300 ∧ r < 300 ∧ c ∉ L.map Prod.fst ∧ r ∉ L.map Prod.snd ∧
      f_RS_add k (nI q) t v rs = some (nI c, rs') ∧ f_MO_newRow k (nI q) t v mo = some (nI r, mo1) ∧ RR (A ++ (c, r) :: B) rs' (sMO_came mo1 (MO_came mo1 + 1)) ∧ MOrow mo (sMO_came mo1 (MO_came mo1 + 1)) ∧ MO_came mo1 = MO_came mo ∧ MO_has mo1 = MO_has mo ∧ MO_toldOf mo1 = MO_toldOf mo ∧ (∀ p ∈ L, MO_rNumber mo1 p.2 = MO_rNumber mo p.2 ∧ MO_rKey mo1 p.2 = MO_rKey mo p.2) ∧ MO_rNumber mo1 r = -1 := by
  obtain ⟨c, A, B, F, o, hAB, hc, hcL, e1, e2, e3, e4, e5⟩ := p_RSadd k hk (nI q) t v h hl
  obtain ⟨r0, hr0, hr1⟩ := h.hole hl
  obtain ⟨r, hr, hrk, e6⟩ := p_newRowL3 mo k 0 (by omega) (by omega) ⟨r0, by omega, hr0, hr1⟩
  rw [nI_0] at e6
  have hrL : r ∉ L.map Prod.snd := by
    intro z
    obtain ⟨p, hp, e⟩ := List.mem_map.mp z
    obtain ⟨x, hx, ex⟩ := h.keyr p hp
    rw [e, hrk] at ex
    exact nI_m1 (by omega) ex.symm
  have n1 : ∀ p ∈ L, p.1 ≠ c := fun p hp e => hcL (e ▸ List.mem_map_of_mem hp)
  have n2 : ∀ p ∈ L, p.2 ≠ r := fun p hp e => hrL (e ▸ List.mem_map_of_mem hp)
  obtain ⟨f2, hf2⟩ : ∃ f2, f2 = vp_updL (MO_rTime mo) r t := ⟨_, rfl⟩
  obtain ⟨f4, hf4⟩ : ∃ f4, f4 = upd (MO_rCame mo) r (MO_came mo) := ⟨_, rfl⟩
  refine ⟨c, r, A, B, _, sMO_rows (sMO_rNumber (sMO_rCame (sMO_rValue (sMO_rTime (sMO_rKey mo (upd (MO_rKey mo) r (nI q))) f2) (vp_updL (MO_rValue mo) r v)) f4) (upd (MO_rNumber mo) r (-1))) (MO_rows mo + 1), hAB, hc, hr, hcL, hrL, e1, ?_, ?_, ?_, ?_, ?_, ?_, fun p hp => ⟨pk_un (n2 p hp), pk_un (n2 p hp)⟩, pk_us⟩
  · unfold f_MO_newRow
    rw [e6, ob, if_neg (nI_in hr (by omega)), nI_clamp (by omega), hf2, hf4]
  · have mem : ∀ p : Nat × Nat, p ∈ A ++ (c, r) :: B → p = (c, r) ∨ p ∈ L := by
      intro p hp
      rw [List.mem_append, List.mem_cons] at hp
      rw [hAB, List.mem_append]
      rcases hp with hp | hp | hp
      · exact Or.inr (Or.inl hp)
      · exact Or.inl hp
      · exact Or.inr (Or.inr hp)
    have hperm : (A ++ (c, r) :: B).Perm ((c, r) :: L) := by rw [hAB]; exact List.perm_middle
    have hlen : (A ++ (c, r) :: B).length = L.length + 1 := by rw [hperm.length_eq]; rfl
    refine ⟨?_, ?_, ⟨F, ?_, ?_⟩, ?_, ?_, ?_, ?_, ?_, ?_, ?_⟩
    · rw [hlen]
    · rw [hlen]
      show MO_rows mo + 1 = _
      rw [h.rows, nI_1]
    · rw [List.map_append, List.map_cons, List.append_assoc]
      exact e2
    · rw [List.map_append, List.map_cons, List.append_assoc]
      exact e3
    · intro p hp
      show upd (RS_keys rs) c (nI q) p.1 = upd (MO_rKey mo) r (nI q) p.2 ∧ vp_updL (RS_times rs) c t p.1 = f2 p.2 ∧ vp_updL (RS_values rs) c v p.1 = vp_updL (MO_rValue mo) r v p.2 ∧ upd (RS_numbers rs) c (-1) p.1 = upd (MO_rNumber mo) r (-1) p.2
      rcases mem p hp with rfl | hp
      · exact ⟨by rw [pk_us, pk_us], by rw [hf2, pk_uLs, pk_uLs], by rw [pk_uLs, pk_uLs], by rw [pk_us, pk_us]⟩
      · obtain ⟨z1, z2, z3, z4⟩ := h.eqs p hp
        rw [hf2, pk_un (n1 p hp), pk_un (n2 p hp), pk_uLn (n1 p hp), pk_uLn (n2 p hp), pk_uLn (n1 p hp), pk_uLn (n2 p hp), pk_un (n1 p hp), pk_un (n2 p hp)]
        exact ⟨z1, z2, z3, z4⟩
    · intro p hp
      show ∃ x : Nat, x < 8 ∧ upd (MO_rKey mo) r (nI q) p.2 = nI x
      rcases mem p hp with rfl | hp
      · exact ⟨q, hq, pk_us⟩
      · rw [pk_un (n2 p hp)]
        exact h.keyr p hp
    · intro p hp
      rcases mem p hp with rfl | hp
      · exact hr
      · exact h.lt p hp
    · rw [(hperm.map Prod.snd).nodup_iff, List.map_cons, List.nodup_cons]
      exact ⟨hrL, h.nd⟩
    · intro x hx
      show upd (MO_rKey mo) r (nI q) x = -1 ∨ _
      rw [(hperm.map Prod.snd).mem_iff, List.map_cons, List.mem_cons]
      by_cases e : x = r
      · exact Or.inr (Or.inl e)
      · rw [pk_un e]
        exact (h.free x hx).imp id Or.inr
    · have hs := h.srt
      rw [hAB] at hs
      have hs' : (A ++ B).Pairwise (fun p q => bfr f2 f4 p.2 q.2) := by
        refine hs.imp_of_mem ?_
        intro a b ha hb hab
        rw [← hAB] at ha hb
        show f2 a.2 < f2 b.2 ∨ f2 a.2 = f2 b.2 ∧ f4 a.2 < f4 b.2
        rw [hf2, hf4, pk_uLn (n2 a ha), pk_uLn (n2 b hb), pk_un (n2 a ha), pk_un (n2 b hb)]
        exact hab
      show (A ++ (c, r) :: B).Pairwise (fun p q => bfr f2 f4 p.2 q.2)
      rw [List.pairwise_append] at hs hs' ⊢
      refine ⟨hs'.1, List.pairwise_cons.mpr ⟨?_, hs'.2.1⟩, ?_⟩
      · intro b hb
        have hbL : b ∈ L := by rw [hAB]; exact List.mem_append_right _ hb
        left
        rw [hf2, pk_uLs, pk_uLn (n2 b hbL), ← (h.eqs b hbL).2.1]
        exact e4 b hb
      · have hA : ∀ a ∈ A, MO_rTime mo a.2 ≤ t := by
          intro a ha
          rcases e5 with e | ⟨A', z, e, hz⟩
          · rw [e] at ha; exact absurd ha (by simp)
          · have hzL : z ∈ L := by rw [hAB, e]; simp
            rw [(h.eqs z hzL).2.1] at hz
            rw [e, List.mem_append, List.mem_singleton] at ha
            rcases ha with ha | rfl
            · have h1 := hs.1
              rw [e, List.pairwise_append] at h1
              have := h1.2.2 a ha z (by simp)
              rw [pl_le] at hz ⊢
              rcases this with y | y
              · rw [pl_lt] at y; omega
              · rw [y.1]; exact hz
            · exact hz
        intro a ha b hb
        rcases List.mem_cons.mp hb with rfl | hb
        · have haL : a ∈ L := by rw [hAB]; exact List.mem_append_left _ ha
          show f2 a.2 < f2 r ∨ f2 a.2 = f2 r ∧ f4 a.2 < f4 r
          rw [hf2, hf4, pk_uLs, pk_uLn (n2 a haL), pk_us, pk_un (n2 a haL)]
          have h1 := hA a ha
          have h2 := h.cam a haL
          by_cases e : MO_rTime mo a.2 = t
          · exact Or.inr ⟨e, h2⟩
          · left
            rw [pl_lt]; rw [pl_le] at h1; rw [pl_eq] at e; omega
        · exact hs'.2.2 a ha b hb
    · intro p hp
      show f4 p.2 < MO_came mo + 1
      have hlt : MO_came mo < MO_came mo + 1 := by
        rw [hC, nI_1]
        exact nI_lt (by omega) (by omega)
      rcases mem p hp with rfl | hp
      · rw [hf4, pk_us]; exact hlt
      · rw [hf4, pk_un (n2 p hp)]
        have := h.cam p hp
        rw [pi_lt] at this hlt ⊢
        omega
  · exact ⟨_, _, _, _, _, _, _, rfl⟩
  · rfl
  · rfl
  · rfl
/-- the bits with a new row -/
theorem BT.addRow {L A B P : List (Nat × Nat)} {hd ut : Nat → Int64} {ha tl : Nat → Int32} (h : BT L P hd ut ha tl) (hAB : L = A ++ B) {c r : Nat} (hc : c < 300) (hr : r < 300) (hcL : c ∉ L.map Prod.fst) (hrL : r ∉ L.map Prod.snd) : BT (A ++ (c, r) :: B) P hd ut ha tl ∧ ∀ p ∈ P, ha (300 * p.2 + r) = 0 := by
  obtain ⟨b1, b2, b3, b4⟩ := h
  have hperm : (A ++ (c, r) :: B).Perm ((c, r) :: L) := by rw [hAB]; exact List.perm_middle
  refine ⟨⟨?_, ?_, ?_, b4⟩, fun p hp => b3 p hp r hr hrL⟩
  · intro p hp q hq
    rcases List.mem_cons.mp (hperm.mem_iff.mp hq) with rfl | hq
    · obtain ⟨z1, z2⟩ := b2 p hp c hc hcL
      have z3 := b3 p hp r hr hrL
      dsimp only
      rw [z1, z2, z3]
      exact ⟨⟨fun z => absurd z (by decide), fun z => absurd rfl z⟩, ⟨fun z => absurd z (by decide), fun z => absurd rfl z.1⟩⟩
    · exact b1 p hp q hq
  · intro p hp x hx hn
    rw [(hperm.map Prod.fst).mem_iff, List.map_cons, List.mem_cons] at hn
    exact b2 p hp x hx (fun z => hn (Or.inr z))
  · intro p hp x hx hn
    rw [(hperm.map Prod.snd).mem_iff, List.map_cons, List.mem_cons] at hn
    exact b3 p hp x hx (fun z => hn (Or.inr z))
