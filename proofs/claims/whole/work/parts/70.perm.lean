/-! ===== orders: what both go through ===== -/
def bls (x : Nat) : List Nat := (List.range 10).filter (fun b => decide (bit x b = 1))
def prm : Nat → List Nat → List (List Nat)
  | 0, _ => [[]]
  | f + 1, L => if L = [] then [[]] else L.flatMap (fun b => (prm f (L.filter (fun c => decide (c ≠ b)))).map (fun q => b :: q))
theorem fm_congr {α β : Type} {f g : α → List β} : ∀ {L : List α}, (∀ a ∈ L, f a = g a) → L.flatMap f = L.flatMap g
  | [], _ => rfl
  | a :: L, h => by
    simp only [List.flatMap_cons]
    rw [h a List.mem_cons_self, fm_congr (fun b hb => h b (List.mem_cons_of_mem _ hb))]
theorem prm_map {B : Nat → Nat} : ∀ (f : Nat) (L : List Nat), (∀ a ∈ L, ∀ b ∈ L, B a = B b → a = b) → prm f (L.map B) = (prm f L).map (fun q => q.map B)
  | 0, _, _ => rfl
  | f + 1, L, h => by
    by_cases q : L = []
    · subst q; rfl
    · have q2 : L.map B ≠ [] := fun z => q (List.map_eq_nil_iff.mp z)
      simp only [prm]
      rw [if_neg q, if_neg q2, List.flatMap_map, List.map_flatMap]
      have : ∀ a ∈ L, ((prm f ((L.map B).filter (fun c => decide (c ≠ B a)))).map (fun q => B a :: q)) = ((prm f (L.filter (fun c => decide (c ≠ a)))).map (fun q => a :: q)).map (fun q => q.map B) := fun a ha => by
        have e : (L.map B).filter (fun c => decide (c ≠ B a)) = (L.filter (fun c => decide (c ≠ a))).map B := by
          rw [List.filter_map]
          refine congrArg _ (List.filter_congr (fun b hb => ?_))
          show decide (B b ≠ B a) = decide (b ≠ a)
          exact decide_eq_decide.mpr ⟨fun w z => w (by rw [z]), fun w z => w (h b hb a ha z)⟩
        rw [e, prm_map f _ (fun b hb c hc => h b (List.mem_filter.mp hb).1 c (List.mem_filter.mp hc).1), List.map_map, List.map_map]
        rfl
      exact fm_congr this
theorem prm_len : ∀ (f : Nat) (L : List Nat), L.length ≤ f → L.Nodup → ∀ q ∈ prm f L, q.length = L.length ∧ ∀ b ∈ q, b ∈ L
  | 0, L, h, _, q, hq => by
    have : L = [] := List.eq_nil_of_length_eq_zero (by omega)
    subst this
    simp [prm] at hq
    subst hq
    exact ⟨rfl, fun b hb => by simp at hb⟩
  | f + 1, L, h, hn, q, hq => by
    simp only [prm] at hq
    by_cases e : L = []
    · rw [if_pos e] at hq
      simp at hq
      subst hq
      subst e
      exact ⟨rfl, fun b hb => by simp at hb⟩
    · rw [if_neg e] at hq
      obtain ⟨b, hb, hq⟩ := List.mem_flatMap.mp hq
      obtain ⟨r, hr, rfl⟩ := List.mem_map.mp hq
      have hl : (L.filter (fun c => decide (c ≠ b))).length + 1 = L.length := by
        have e1 : L.filter (fun c => decide (c ≠ b)) = L.erase b := by
          rw [hn.erase_eq_filter]
          exact List.filter_congr (fun c _ => by rw [Bool.eq_iff_iff]; simp)
        rw [e1, List.length_erase_of_mem hb]
        have := List.length_pos_of_mem hb
        omega
      obtain ⟨h1, h2⟩ := prm_len f _ (by omega) (hn.filter _) r hr
      refine ⟨by simp only [List.length_cons]; omega, fun c hc => ?_⟩
      rcases List.mem_cons.mp hc with rfl | hc
      · exact hb
      · exact (List.mem_filter.mp (h2 c hc)).1
theorem bls_mem {x b : Nat} : b ∈ bls x ↔ b < 10 ∧ bit x b = 1 := by
  unfold bls
  rw [List.mem_filter, List.mem_range, decide_eq_true_eq]
theorem bls_nodup (x : Nat) : (bls x).Nodup := List.nodup_range.filter _
theorem bls_len {x : Nat} (h : x < 1024) : (bls x).length = pcn x := by
  have : ∀ x : Nat, x < 1024 → (bls x).length = pcn x := by decide +kernel
  exact this x h
theorem bls_lt {x n b : Nat} (hx : x < 2 ^ n) (hb : b ∈ bls x) : b < n := by
  have := (bls_mem.mp hb).2
  unfold bit at this
  have h1 : 0 < x / 2 ^ b := Nat.pos_of_ne_zero (fun z => by rw [z] at this; simp at this)
  have h2 : 2 ^ b ≤ x := by
    have := Nat.div_mul_le_self x (2 ^ b)
    have := Nat.le_mul_of_pos_left (2 ^ b) h1
    omega
  exact (Nat.pow_lt_pow_iff_right (by omega : 1 < 2)).mp (Nat.lt_of_le_of_lt h2 hx)
theorem bls_rest {x b : Nat} (hx : x < 1024) (hb : b < 10) (h1 : bit x b = 1) : nI x &&& (((1 : Int32) <<< (nI b &&& 31)) ^^^ (-1)) = nI (x - 2 ^ b) ∧ bls (x - 2 ^ b) = (bls x).filter (fun c => decide (c ≠ b)) := by
  have : ∀ x : Nat, x < 1024 → ∀ b : Nat, b < 10 → bit x b = 1 → nI x &&& (((1 : Int32) <<< (nI b &&& 31)) ^^^ (-1)) = nI (x - 2 ^ b) ∧ bls (x - 2 ^ b) = (bls x).filter (fun c => decide (c ≠ b)) := by decide +kernel
  exact this x hx b hb h1
theorem bls_0 {x : Nat} (h : x < 1024) : bls x = [] ↔ x = 0 := by
  have : ∀ x : Nat, x < 1024 → (bls x = [] ↔ x = 0) := by decide +kernel
  exact this x h
/-! the next order, by the class's way, over places -/
def fi (f : Nat → Nat) : Nat → Nat
  | 0 => 0
  | i + 1 => if f (i + 1) < f i then fi f i else i + 1
def fj (f : Nat → Nat) (i : Nat) : Nat → Nat
  | 0 => 0
  | j + 1 => if i < j + 1 ∧ f (j + 1) < f i then fj f i j else j + 1
def sw (f : Nat → Nat) (i j k : Nat) : Nat := if k = j then f i else if k = i then f j else f k
def rv : Nat → (Nat → Nat) → Nat → Nat → (Nat → Nat)
  | 0, f, _, _ => f
  | n + 1, f, l, r => if l < r then rv n (sw f l r) (l + 1) (r - 1) else f
def gL (l : List Nat) (k : Nat) : Nat := l.getD k 0
def nxt (m : Nat) (l : List Nat) : Option (List Nat) :=
  if fi (gL l) (m - 1) = 0 then none else some ((List.range m).map (rv m (sw (gL l) (fi (gL l) (m - 1) - 1) (fj (gL l) (fi (gL l) (m - 1) - 1) (m - 1))) (fi (gL l) (m - 1)) (m - 1)))
def PL (m : Nat) : List (List Nat) := prm m (List.range m)
theorem PL_facts {m : Nat} (hm : m ≤ 5) : (PL m).length ≤ 120 ∧ (PL m)[0]? = some (List.range m) ∧ ∀ t : Nat, t < (PL m).length → nxt m ((PL m).getD t []) = (PL m)[t + 1]? := by
  have : ∀ m : Nat, m < 6 → (PL m).length ≤ 120 ∧ (PL m)[0]? = some (List.range m) ∧ ∀ t : Nat, t < (PL m).length → nxt m ((PL m).getD t []) = (PL m)[t + 1]? := by decide +kernel
  exact this m (by omega)
/-! the best one -/
noncomputable def oval (I : xI) (ls : lwT) (s si : Nat) (P : List Nat) : Nat := woR I ls (P.map (fun b => (b, s))) si P.length
abbrev oT : Type := Option (Nat × List Nat)
def oU (v : List Nat → Nat) (o : oT) (P : List Nat) : oT := match o with
  | none => some (v P, P)
  | some (m, b) => if m < v P then some (v P, P) else some (m, b)
def oE : oT → Int64
  | none => -1
  | some (m, _) => lN m
theorem oval_fr {I I' : xI} (h : Fq I I') {ls : lwT} {s si : Nat} : oval I' ls s si = oval I ls s si := by
  funext P
  unfold oval
  rw [woR_fr h]
