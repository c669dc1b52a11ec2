/-! ===== THE ABSTRACT MACHINE: a store of numbers by cell and place, code gone through by a function that says what must hold (wp) ===== -/
/-- a value: a number, or a reference (its kind, its place in the layout) -/
abbrev AV : Type := Int32 ⊕ (Nat × Nat)
/-- the store: what each cell holds at each of its places -/
abbrev ST : Type := Nat → Nat → Int32
abbrev LV : Type := List (Option AV)
/-- what names the machine's own things: addresses of cells, classes, array classes, statics' arrays, texts, their bytes, a formatter, the script -/
abbrev XT : Type := (Nat → Nat) × va_G × (Nat → ClassId) × (Nat → Nat) × (Nat → Nat) × (Nat → Nat) × Value × Nat × Nat × (Nat → Int32)
abbrev x_ad (X : XT) : Nat → Nat := X.1
abbrev x_D (X : XT) : va_G := X.2.1
abbrev x_cA (X : XT) : Nat → ClassId := X.2.2.1
abbrev x_sA (X : XT) : Nat → Nat := X.2.2.2.1
abbrev x_kK (X : XT) : Nat → Nat := X.2.2.2.2.1
abbrev x_kV (X : XT) : Nat → Nat := X.2.2.2.2.2.1
abbrev x_fm (X : XT) : Value := X.2.2.2.2.2.2.1
abbrev x_b (X : XT) : Nat := X.2.2.2.2.2.2.2.1
abbrev x_L (X : XT) : Nat := X.2.2.2.2.2.2.2.2.1
abbrev x_xs (X : XT) : Nat → Int32 := X.2.2.2.2.2.2.2.2.2
def TS : List Cond := lw_tbl.filter goodWord
theorem TS_at {i : Nat} {w : Cond} (h : lw_tbl[i]? = some w) (g : goodWord w = true) : w ∈ TS := List.mem_filter.mpr ⟨List.mem_of_getElem? h, g⟩
/-- one place of one cell changed -/
def up (σ : ST) (k j : Nat) (x : Int32) : ST := fun a b => if a = k ∧ b = j then x else σ a b
/-- a stretch of a cell copied into another -/
def upc (σ : ST) (k0 k1 sp dp n : Nat) : ST := fun a b => if a = k1 then va_cpy (σ k0) (σ k1) sp dp n b else σ a b
def tg (md v k : Nat) : Nat := match md with
  | 0 => v
  | _ => k + v
def lg : LV → Nat → Option AV
  | [], _ => none
  | v :: _, 0 => v
  | _ :: l, n + 1 => lg l n
def lst : LV → Nat → AV → LV
  | [], _, _ => []
  | _ :: l, 0, v => some v :: l
  | a :: l, n + 1, v => a :: lst l n v
/-- an instruction: where, how long, which, three numbers, a constant, a switch's targets -/
abbrev PE : Type := Nat × Nat × Instr × Nat × Nat × Nat × Int32 × List (Int32 × Nat)
abbrev CTy : Type := Nat → List AV → ST → (Option AV → ST → Prop) → Prop
def isB (c j : Nat) : Bool := Nat.beq c 0 && Nat.beq j 3
def swt (KJ : Nat → Prop) (x : Int32) (d : Nat) : List (Int32 × Nat) → Prop
  | [] => KJ d
  | (v, t) :: l => (x = v → KJ t) ∧ (¬ x = v → swt KJ x d l)
def short (r : List AV) : Bool := match r with
  | _ :: _ :: _ :: _ :: _ :: _ :: _ :: _ :: _ :: _ => false
  | _ => true
/-- a call: its arguments off the stack, what comes back onto it -/
def cll (CT : CTy) (id n : Nat) (as : List AV) (σ : ST) (ok : AV → Bool) (KN : List AV → ST → Prop) : Prop :=
  match n, as with
  | 0, r => cond (short r) (CT id [] σ (fun v σ' => match v with | none => KN r σ' | some w => KN (w :: r) σ')) False
  | 1, a :: r => cond (ok a && short r) (CT id [a] σ (fun v σ' => match v with | none => KN r σ' | some w => KN (w :: r) σ')) False
  | 2, b :: a :: r => cond (ok a && short r) (CT id [a, b] σ (fun v σ' => match v with | none => KN r σ' | some w => KN (w :: r) σ')) False
  | 3, c :: b :: a :: r => cond (ok a && short r) (CT id [a, b, c] σ (fun v σ' => match v with | none => KN r σ' | some w => KN (w :: r) σ')) False
  | 4, d :: c :: b :: a :: r => cond (ok a && short r) (CT id [a, b, c, d] σ (fun v σ' => match v with | none => KN r σ' | some w => KN (w :: r) σ')) False
  | 5, e :: d :: c :: b :: a :: r => cond (ok a && short r) (CT id [a, b, c, d, e] σ (fun v σ' => match v with | none => KN r σ' | some w => KN (w :: r) σ')) False
  | _, _ => False
def rcv (q : Nat) (v : AV) : Bool := match v with
  | .inr (q', _) => Nat.beq q' q
  | _ => false
def isRf (q : Nat) : Bool := Nat.blt q 62 || Nat.beq q 70 || Nat.beq q 71
def isIA (q : Nat) : Bool := Nat.ble 20 q && Nat.ble q 39
def isZA (q : Nat) : Bool := Nat.ble 40 q && Nat.ble q 49
def isRA (q : Nat) : Bool := Nat.ble 50 q && Nat.ble q 52
def gsV (a : Nat) : AV := match a with
  | 5 => .inl (nI 1)
  | 6 => .inr (80, 0)
  | i => .inr (61, i)
/-- a jump on a condition -/
def brc (c : Prop) (J N : Prop) : Prop := (c → J) ∧ (¬ c → N)
/-- WHAT MUST HOLD before an instruction, for what must hold behind it -/
def stp (CT : CTy) (SC : Prop) (L : Nat) (xs : Nat → Int32) (ins : Instr) (a b : Nat) (x : Int32) (sw : List (Int32 × Nat)) (al : LV) (as : List AV) (σ : ST)
    (KN : LV → List AV → ST → Prop) (KJ : Nat → LV → List AV → ST → Prop) (Rt : Option AV → ST → Prop) : Prop :=
  match ins with
  | .iconst _ => KN al (.inl x :: as) σ
  | .bipush _ => KN al (.inl x :: as) σ
  | .sipush _ => KN al (.inl x :: as) σ
  | .ldc _ => match a with
    | 0 => KN al (.inl x :: as) σ
    | i + 1 => KN al (.inr (70, i) :: as) σ
  | .ldc_w _ => KN al (.inl x :: as) σ
  | .iload_n _ => match lg al a with
    | some (.inl v) => KN al (.inl v :: as) σ
    | _ => False
  | .iload _ => match lg al a with
    | some (.inl v) => KN al (.inl v :: as) σ
    | _ => False
  | .aload_n _ => match lg al a with
    | some (.inr v) => cond (isRf v.1) (KN al (.inr v :: as) σ) False
    | _ => False
  | .aload _ => match lg al a with
    | some (.inr v) => cond (isRf v.1) (KN al (.inr v :: as) σ) False
    | _ => False
  | .istore_n _ => match as with
    | .inl v :: r => KN (lst al a (.inl v)) r σ
    | _ => False
  | .istore _ => match as with
    | .inl v :: r => KN (lst al a (.inl v)) r σ
    | _ => False
  | .astore_n _ => match as with
    | .inr v :: r => cond (isRf v.1) (KN (lst al a (.inr v)) r σ) False
    | _ => False
  | .astore _ => match as with
    | .inr v :: r => cond (isRf v.1) (KN (lst al a (.inr v)) r σ) False
    | _ => False
  | .iinc _ _ => match lg al a with
    | some (.inl v) => KN (lst al a (.inl (v + x))) as σ
    | _ => False
  | .iadd => match as with
    | .inl v :: .inl u :: r => KN al (.inl (u + v) :: r) σ
    | _ => False
  | .isub => match as with
    | .inl v :: .inl u :: r => KN al (.inl (u - v) :: r) σ
    | _ => False
  | .imul => match as with
    | .inl v :: .inl u :: r => KN al (.inl (u * v) :: r) σ
    | _ => False
  | .idiv => match as with
    | .inl v :: .inl u :: r => (¬ v = nI 0) ∧ KN al (.inl (u / v) :: r) σ
    | _ => False
  | .irem => match as with
    | .inl v :: .inl u :: r => (¬ v = nI 0) ∧ KN al (.inl (u - u / v * v) :: r) σ
    | _ => False
  | .ishl => match as with
    | .inl v :: .inl u :: r => KN al (.inl (u <<< (v &&& 31)) :: r) σ
    | _ => False
  | .ishr => match as with
    | .inl v :: .inl u :: r => KN al (.inl (u >>> (v &&& 31)) :: r) σ
    | _ => False
  | .iushr => match as with
    | .inl v :: .inl u :: r => KN al (.inl (u.toUInt32 >>> (v.toUInt32 &&& Int32.toUInt32 31)).toInt32 :: r) σ
    | _ => False
  | .iand => match as with
    | .inl v :: .inl u :: r => KN al (.inl (u &&& v) :: r) σ
    | _ => False
  | .ior => match as with
    | .inl v :: .inl u :: r => KN al (.inl (u ||| v) :: r) σ
    | _ => False
  | .ixor => match as with
    | .inl v :: .inl u :: r => KN al (.inl (u ^^^ v) :: r) σ
    | _ => False
  | .i2c => match as with
    | .inl u :: r => KN al (.inl (u.toUInt32 % 65536).toInt32 :: r) σ
    | _ => False
  | .dup => match as with
    | v :: r => KN al (v :: v :: r) σ
    | _ => False
  | .dup2 => match as with
    | v :: u :: r => KN al (v :: u :: v :: u :: r) σ
    | _ => False
  | .pop => match as with
    | _ :: r => KN al r σ
    | _ => False
  | .goto _ => KJ a al as σ
  | .ifCond cc _ => match as with
    | .inl u :: r => match cc with
      | .eq => brc (u = nI 0) (KJ a al r σ) (KN al r σ)
      | .ne => brc (u = nI 0) (KN al r σ) (KJ a al r σ)
      | .lt => brc (u < nI 0) (KJ a al r σ) (KN al r σ)
      | .ge => brc (nI 0 ≤ u) (KJ a al r σ) (KN al r σ)
      | .gt => brc (nI 0 < u) (KJ a al r σ) (KN al r σ)
      | .le => brc (u ≤ nI 0) (KJ a al r σ) (KN al r σ)
    | _ => False
  | .if_icmp cc _ => match as with
    | .inl v :: .inl u :: r => match cc with
      | .eq => brc (u = v) (KJ a al r σ) (KN al r σ)
      | .ne => brc (u = v) (KN al r σ) (KJ a al r σ)
      | .lt => brc (u < v) (KJ a al r σ) (KN al r σ)
      | .ge => brc (v ≤ u) (KJ a al r σ) (KN al r σ)
      | .gt => brc (v < u) (KJ a al r σ) (KN al r σ)
      | .le => brc (u ≤ v) (KJ a al r σ) (KN al r σ)
    | _ => False
  | .tableswitch _ _ _ _ => match as with
    | .inl u :: r => swt (fun t => KJ t al r σ) u a sw
    | _ => False
  | .lookupswitch _ _ => match as with
    | .inl u :: r => swt (fun t => KJ t al r σ) u a sw
    | _ => False
  | .getfield _ => match as with
    | .inr (q, k) :: r => cond (Nat.beq q a) (cond (Nat.beq a 70) (match b with
        | 0 => KN al (.inr (71, k) :: r) σ
        | _ => KN al (.inl (nI 0) :: r) σ) (match fT a b with
        | none => KN al (.inl (σ k b) :: r) σ
        | some (q', md, v) => KN al (.inr (q', tg md v k) :: r) σ)) False
    | _ => False
  | .putfield _ => match as with
    | .inl v :: .inr (q, k) :: r => cond (Nat.beq q a) (cond (isB a b) ((v = nI 0 ∨ v = nI 1) ∧ KN al r (up σ k b v)) (KN al r (up σ k b v))) False
    | _ => False
  | .getstatic _ => KN al (gsV a :: as) σ
  | .iaload => match as with
    | .inl i :: .inr (q, k) :: r => cond (isIA q) (vp_in i (alen q) ∧ KN al (.inl (σ k i.toNatClampNeg) :: r) σ)
        (cond (Nat.beq q 60) (SC ∧ vp_in i L ∧ KN al (.inl (xs i.toNatClampNeg) :: r) σ)
        (cond (Nat.beq q 61) (vp_in i 5 ∧ KN al (.inl (stT k i.toNatClampNeg) :: r) σ) False))
    | _ => False
  | .iastore => match as with
    | .inl v :: .inl i :: .inr (q, k) :: r => cond (isIA q) (vp_in i (alen q) ∧ KN al r (up σ k i.toNatClampNeg v)) False
    | _ => False
  | .baload => match as with
    | .inl i :: .inr (q, k) :: r => cond (isZA q) (vp_in i (alen q) ∧ KN al (.inl (σ k i.toNatClampNeg) :: r) σ)
        (cond (Nat.beq q 71) (vp_in i (sLen.getD k 0) ∧ KN al (.inl ((sByt.getD k []).getD i.toNatClampNeg 0) :: r) σ) False)
    | _ => False
  | .bastore => match as with
    | .inl v :: .inl i :: .inr (q, k) :: r => cond (isZA q) (vp_in i (alen q) ∧ KN al r (up σ k i.toNatClampNeg (vp_nar .boolean v))) False
    | _ => False
  | .aaload => match as with
    | .inl i :: .inr (q, _) :: r => cond (isRA q) (vp_in i (alen q) ∧ KN al (.inr (rK q, rF q + rS q * i.toNatClampNeg) :: r) σ) False
    | _ => False
  | .arraylength => match as with
    | .inr (q, k) :: r => cond (isIA q) (KN al (.inl (nI (alen q)) :: r) σ)
        (cond (Nat.beq q 60) (SC ∧ KN al (.inl (nI L) :: r) σ)
        (cond (Nat.beq q 71) (KN al (.inl (nI (sLen.getD k 0)) :: r) σ) False))
    | _ => False
  | .invokevirtual _ => cll CT a (b % 8) as σ (rcv (b / 8)) (fun as σ => KN al as σ)
  | .invokestatic _ => cond (Nat.beq a 999) False (cond (Nat.beq a 900) (match as with
      | .inl n :: .inl dp :: .inr (q1, k1) :: .inl sp :: .inr (q0, k0) :: r => cond (isIA q0 && isIA q1 && short r) ((¬ sp < 0 ∧ ¬ dp < 0 ∧ ¬ n < 0 ∧ sp.toNatClampNeg + n.toNatClampNeg ≤ alen q0 ∧ dp.toNatClampNeg + n.toNatClampNeg ≤ alen q1) ∧
          KN al r (upc σ k0 k1 sp.toNatClampNeg dp.toNatClampNeg n.toNatClampNeg)) False
      | _ => False) (cond (Nat.beq a 901) (match as with
      | .inl v :: .inl u :: r => cond (short r) (KN al (.inl (if u < v then v else u) :: r) σ) False
      | _ => False) (cond (Nat.beq a 902) (match as with
      | .inl v :: .inl u :: r => cond (short r) (KN al (.inl (if v < u then v else u) :: r) σ) False
      | _ => False) (cll CT a b as σ (fun _ => true) (fun as σ => KN al as σ)))))
  | .ireturn => match as with
    | [.inl v] => match a with
      | 0 => Rt (some (.inl v)) σ
      | 1 => (v = nI 0 ∨ v = nI 1) ∧ Rt (some (.inl v)) σ
      | 2 => narrow .char (.int v) = .int v ∧ Rt (some (.inl v)) σ
      | _ => narrow .byte (.int v) = .int v ∧ Rt (some (.inl v)) σ
    | _ => False
  | .areturn => match as with
    | [.inr v] => cond (isRf v.1) (Rt (some (.inr v)) σ) False
    | _ => False
  | .return_ => match as with
    | [] => Rt none σ
    | _ => False
  | _ => False
def fnd (t : Nat) : List PE → List PE
  | [] => []
  | e :: l => cond (Nat.beq e.1 t) (e :: l) (fnd t l)
def mem (t : Nat) : List Nat → Bool
  | [] => false
  | a :: l => cond (Nat.beq a t) true (mem t l)
def nx (stops : List Nat) (G : Nat → LV → List AV → ST → Prop) (W : List PE → LV → List AV → ST → Prop) (rest : List PE) (al : LV) (as : List AV) (σ : ST) : Prop := match rest with
  | [] => False
  | e :: r => cond (mem e.1 stops) (G e.1 al as σ) (W (e :: r) al as σ)
def jm (P : List PE) (stops : List Nat) (G : Nat → LV → List AV → ST → Prop) (W : List PE → LV → List AV → ST → Prop) (t : Nat) (al : LV) (as : List AV) (σ : ST) : Prop := cond (mem t stops) (G t al as σ) (W (fnd t P) al as σ)
/-- from an instruction on: what must hold, as far as the places 'stops', where G must hold -/
def wp (CT : CTy) (SC : Prop) (L : Nat) (xs : Nat → Int32) (Rt : Option AV → ST → Prop) (P : List PE) (stops : List Nat) (G : Nat → LV → List AV → ST → Prop) : Nat → List PE → LV → List AV → ST → Prop
  | 0, _, _, _, _ => False
  | n + 1, rest, al, as, σ => match rest with
    | [] => False
    | (_, _, ins, a, b, _, x, sw) :: rest' => stp CT SC L xs ins a b x sw al as σ (nx stops G (wp CT SC L xs Rt P stops G n) rest') (jm P stops G (wp CT SC L xs Rt P stops G n)) Rt
/-! ===== what a program list must be: the method's code, its links in the tables ===== -/
def kOf (o : Nat) : Nat := ([0, 1, 2, 99, 3, 4, 5, 6, 7, 8, 9, 99, 70] : List Nat).getD o 99
def okI (own nL : Nat) (rt : Option FieldType) (pc len : Nat) (ins : Instr) (a b c : Nat) (x : Int32) (sw : List (Int32 × Nat)) : Bool :=
  match ins with
  | .iconst n => decide (len = 1) && decide (Int32.ofInt n = x)
  | .bipush n => decide (len = 2) && decide ((Int8.ofInt n).toInt32 = x)
  | .sipush n => decide (len = 3) && decide ((Int16.ofInt n).toInt32 = x)
  | .ldc i => decide (len = 2) && (match a with
    | 0 => (match lnkC[c]? with | some (o, j, y, _) => decide (o = own) && decide (j = i) && decide (y = x) | none => false)
    | k + 1 => decide (own = 7) && decide (k < 9) && decide (sIx k = i))
  | .ldc_w i => decide (len = 3) && (match lnkC[c]? with | some (o, j, y, _) => decide (o = own) && decide (j = i) && decide (y = x) | none => false)
  | .iload_n k => decide (len = 1) && decide (k.val = a)
  | .aload_n k => decide (len = 1) && decide (k.val = a)
  | .istore_n k => decide (len = 1) && decide (k.val = a) && decide (a < nL)
  | .astore_n k => decide (len = 1) && decide (k.val = a) && decide (a < nL)
  | .iload k => decide (len = 2) && decide (k = a)
  | .aload k => decide (len = 2) && decide (k = a)
  | .istore k => decide (len = 2) && decide (k = a) && decide (a < nL)
  | .astore k => decide (len = 2) && decide (k = a) && decide (a < nL)
  | .iinc k n => decide (len = 3) && decide (k = a) && decide (Int32.ofInt n = x)
  | .goto off => decide (len = 3) && decide ((pc : Int) + off = (a : Int))
  | .ifCond _ off => decide (len = 3) && decide ((pc : Int) + off = (a : Int))
  | .if_icmp _ off => decide (len = 3) && decide ((pc : Int) + off = (a : Int))
  | .tableswitch d lo hi offs => decide ((pc : Int) + d = (a : Int)) && decide (hi = lo + (sw.length : Int) - 1) && decide (-1000 ≤ lo) && decide (hi ≤ 1000) && decide (offs.toList.map (fun o => (pc : Int) + o) = sw.map (fun q => (q.2 : Int))) && decide (sw.map (fun q => q.1) = (List.range sw.length).map (fun (i : Nat) => Int32.ofInt (lo + (i : Int))))
  | .lookupswitch d ps => decide ((pc : Int) + d = (a : Int)) && (ps.toList.zip (ps.toList.drop 1)).all (fun (a, next) => a.1 < next.1) && decide (ps.toList.map (fun q => ((pc : Int) + q.2, q.1)) = sw.map (fun q => ((q.2 : Int), q.1.toInt)))
  | .getfield i => decide (len = 3) && cond (Nat.beq a 70) (match b with
      | 0 => decide (own = sVal.1) && decide (i = sVal.2.1)
      | _ => decide (own = sCod.1) && decide (i = sCod.2.1))
      (match lnkF[c]? with | some (o, j, ci, f, _) => decide (o = own) && decide (j = i) && decide (ci = a) && decide (f = b) | none => false)
  | .putfield i => decide (len = 3) && (match fT a b with | none => true | _ => false) && (match lnkF[c]? with | some (o, j, ci, f, _) => decide (o = own) && decide (j = i) && decide (ci = a) && decide (f = b) | none => false)
  | .getstatic i => decide (len = 3) && (match lnkG[a]? with | some (o, j, _) => decide (o = own) && decide (j = i) | none => false)
  | .invokevirtual i => decide (len = 3) && decide ((mG a).2.2.2.2.2.1 = 1) && decide (b = (mG a).2.2.2.2.2.2 + 1 + 8 * kOf (mG a).2.2.2.2.1) && decide ((mG a).2.2.2.2.2.2 < 5) && decide (kOf (mG a).2.2.2.2.1 < 71) && decide (a < mN) && (match lnkM[c]? with | some (o, j, d, _) => decide (o = own) && decide (j = i) && decide (d = a) | none => false)
  | .invokestatic i => decide (len = 3) && cond (Nat.beq a 999) true (cond (Nat.beq a 900) (match lnkA[c]? with | some (o, j, _) => decide (o = own) && decide (j = i) | none => false)
      (cond (Nat.beq a 901) (match lnkX[c]? with | some (o, j, _) => decide (o = own) && decide (j = i) | none => false) (cond (Nat.beq a 902) (match lnkN[c]? with | some (o, j, _) => decide (o = own) && decide (j = i) | none => false) (decide ((mG a).2.2.2.2.2.1 = 0) && decide (b = (mG a).2.2.2.2.2.2) && decide (a < mN) && (match lnkM[c]? with | some (o, j, d, _) => decide (o = own) && decide (j = i) && decide (d = a) | none => false)))))
  | .ireturn => decide (len = 1) && (match a with
    | 0 => decide (rt = some .int)
    | 1 => decide (rt = some .boolean)
    | 2 => decide (rt = some .char)
    | _ => decide (rt = some .byte))
  | .areturn => decide (len = 1) && (match rt with | some (.object _) => true | _ => false)
  | .return_ => decide (len = 1) && decide (rt = none)
  | _ => decide (len = 1)
/-- each entry decodes, is linked, and stands where the one before it ends -/
def okP (own nL : Nat) (cc : ByteArray) (rt : Option FieldType) : Nat → List PE → Bool
  | _, [] => true
  | p, (pc, len, ins, a, b, c, x, sw) :: l => decide (pc = p) && decide (decode cc pc = .ok (ins, len)) && okI own nL rt pc len ins a b c x sw && okP own nL cc rt (pc + len) l
