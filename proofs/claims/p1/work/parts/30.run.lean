noncomputable section
/-- a field's or component's read -/
def e_fld (h : eH) (v : eV) (ci k : Nat) : Option eV := match v with
  | (2, r) => match e_get h r with
    | some (0, c, fs) => bif Nat.beq c ci then e_get fs k else none
    | _ => none
  | (3, x) => match pg_xf x with
    | some (c, fs) => bif Nat.beq c ci then e_get fs k else none
    | none => none
  | _ => none
def e_arr (h : eH) (v : eV) : Option (Nat × List eV) := match v with
  | (2, r) => match e_get h r with
    | some (1, t, l) => some (t, l)
    | _ => none
  | (3, x) => pg_xa x
  | _ => none
def e_cls (h : eH) (v : eV) : Option Nat := match v with
  | (2, r) => match e_get h r with
    | some (0, c, _) => some c
    | _ => none
  | (3, x) => match pg_xf x with
    | some (c, _) => some c
    | none => none
  | _ => none
/-- what a row of references may take: an object -/
def e_obj (h : eH) (t : Nat) (v : eV) : Bool := match t with
  | 7 => (match e_cls h v with
    | some _ => true
    | none => false)
  | _ => true
def e_is (u : eV) : Option eV → Bool
  | some v => Nat.beq v.1 u.1 && Nat.beq v.2 u.2
  | none => false
def e_allat (u : eV) (l : List eV) : Nat → Nat → Bool
  | _, 0 => true
  | j, n + 1 => e_is u (e_get l j) && e_allat u l (j + 1) n
/-- what a row holds at an unknown place, where it holds the same at all places that it may be -/
def e_any (G : eG) (l : List eV) (k : Nat) : Option eV := match e_get G.1 k with
  | some (lo, hi) => bif Nat.ble 2147483648 lo && (Nat.ble lo hi && Nat.blt hi 2147549184) then (match e_get l (lo - 2147483648) with
      | some u => bif e_allat u l (lo - 2147483648) (hi + 1 - lo) then some u else none
      | none => none) else none
  | none => none
def e_go (nx : Nat) (ls : eL) (st : List eV) (h : eH) : Option eS := some (nx, ls, st, h, 0, 0, 0, 0)
def e_ob (c : Nat) : Option eC → Bool
  | some (0, c', _) => Nat.beq c' c
  | _ => false
/-- null, or an object of the world, of class c -/
def e_no (h : eH) (c : Nat) : eV → Bool
  | (1, _) => true
  | (2, k) => e_ob c (e_get h k)
  | _ => false
def e_allc (h : eH) (c : Nat) : List eV → Bool
  | [] => true
  | v :: t => e_no h c v && e_allc h c t
/-- nulls, and objects of one class, that of the first -/
def e_allobj (h : eH) : List eV → Bool
  | [] => true
  | v :: t => match e_cls h v with
    | some c => e_allc h c (v :: t)
    | none => e_allc h 99 (v :: t)
/-- the first sample's block and grade are unknown, and bounded -/
def e_mdB (G : eG) : Bool := match e_get G.1 1, e_get G.1 2 with
  | some (l1, h1), some (l2, h2) => Nat.ble 2147483648 l1 && (Nat.ble h1 2147483707 && (Nat.ble 2147483648 l2 && Nat.ble h2 2147483747))
  | _, _ => false
/-- a row of ints that begins with the unknown k -/
def e_mdR (h : eH) (q k : Nat) : Bool := match e_get h q with
  | some (1, 0, (4, k') :: _) => Nat.beq k' k
  | _ => false
/-- the ore with its one sample, that of the unknowns 1 and 2 -/
def e_mdH (h : eH) (q : Nat) : Bool := match e_get h q with
  | some (0, 8, [(2, q1), (2, q2), _, (0, 1)]) => e_mdR h q1 1 && e_mdR h q2 2
  | _ => false
/-- one instruction that is no call and no end: by kinds -/
abbrev eF : Type := eG → Nat → Nat → Nat → Nat → eL → List eV → eH → Option eS
def e_s0 : eF := fun G i a b nx ls st h => match i with
      | 0 => e_go nx ls ((0, a) :: st) h
      | 1 => e_go nx ls ((5, a) :: st) h
      | 2 => e_go nx ls ((6, a) :: st) h
      | 3 => e_go nx ls ((7, a) :: st) h
      | 4 => e_go nx ls ((1, 0) :: st) h
      | 5 => e_go nx ls ((3, a) :: st) h
      | _ => none
def e_s1 : eF := fun G i a b nx ls st h => bif Nat.blt i 4 then (match e_look ls a with
        | some v => bif e_kind i v then e_go nx ls (v :: st) h else none
        | none => none)
      else (match st with
        | v :: rest => bif e_kind (i - 4) v then e_go nx ((a, v) :: (bif Nat.blt i 6 then e_drop1 a ls else e_drop2 a ls)) rest h else none
        | [] => none)
def e_s2 : eF := fun G i a b nx ls st h => match i with
      | 0 => match e_look ls a with
        | some (0, n) => e_go nx ((a, (0, (n + b) % 4294967296)) :: e_drop1 a ls) st h
        | _ => none
      | 1 => match st with
        | v :: rest => bif e_wide v then none else e_go nx ls (v :: v :: rest) h
        | [] => none
      | 2 => match st with
        | v :: rest => bif e_wide v then none else e_go nx ls rest h
        | [] => none
      | 3 => match st with
        | v :: w :: rest => bif e_wide v || e_wide w then none else e_go nx ls (v :: w :: v :: rest) h
        | _ => none
      | 4 => e_go nx ls st h
      | _ => none
def e_s3 : eF := fun G i a b nx ls st h => match st with
      | y :: x :: rest => match e_bin G i x y with
        | some v => e_go nx ls (v :: rest) h
        | none => none
      | _ => none
def e_s4 : eF := fun G i a b nx ls st h => match st with
      | x :: rest => match e_un G i x with
        | some v => e_go nx ls (v :: rest) h
        | none => none
      | _ => none
def e_s5 : eF := fun G i a b nx ls st h => match st with
      | x :: rest => match e_cond G i x (0, 0) with
        | some c => e_go (bif c then a else nx) ls rest h
        | none => none
      | _ => none
def e_s6 : eF := fun G i a b nx ls st h => match st with
      | y :: x :: rest => match e_cond G i x y with
        | some c => e_go (bif c then a else nx) ls rest h
        | none => none
      | _ => none
def e_s7 : eF := fun G i a b nx ls st h => match i with
      | 0 => match st with
        | v :: rest => match e_fld h v a b with
          | some u => e_go nx ls (u :: rest) h
          | none => none
        | [] => none
      | 1 => some (nx, ls, (2, h.length) :: st, h ++ [(0, a, pg_def a)], 1, b, 0, 0)
      | 2 => match st with
        | v :: rest => match e_cls h v with
          | some c => bif Nat.beq c a then e_go nx ls (v :: rest) h else none
          | none => none
        | [] => none
      | 3 => match st with
        | v :: rest => match e_arr h v with
          | some (t, l) => bif Nat.blt t 8 then e_go nx ls ((0, l.length) :: rest) h else none
          | none => none
        | [] => none
      | 4 => match st with
        | (2, _) :: rest => some (nx, ls, rest, h, 0, 0, 1, 12 + e_cat rest)
        | _ => none
      | 5 => match st with
        | y :: x :: rest => bif e_isR x && e_isR y then (match e_same x y with
            | some c => e_go (bif c then a else nx) ls rest h
            | none => none) else none
        | _ => none
      | 6 => match st with
        | y :: x :: rest => bif e_isR x && e_isR y then (match e_same x y with
            | some c => e_go (bif c then nx else a) ls rest h
            | none => none) else none
        | _ => none
      | _ => none
def e_s8 : eF := fun G i a b nx ls st h => match st with
      | (0, j) :: v :: rest => match e_arr h v with
        | some (t, l) => bif Nat.beq t i && Nat.blt j 65536 then (match e_get l j with
            | some u => bif e_tyok t u then e_go nx ls (u :: rest) h else none
            | none => none) else none
        | none => none
      | (4, k) :: v :: rest => match e_arr h v with
        | some (t, l) => bif Nat.beq t i then (match e_any G l k with
            | some u => bif e_tyok t u then e_go nx ls (u :: rest) h else none
            | none => none) else none
        | none => none
      | _ => none
def e_s9 : eF := fun G i a b nx ls st h => match st with
      | u :: (2, r) :: rest => match e_get h r with
        | some (0, c, fs) => bif Nat.beq c a && (Nat.blt b fs.length && e_fit G i u) then e_go nx ls rest (e_set h r (0, c, e_set fs b u)) else none
        | _ => none
      | _ => none
def e_s10 : eF := fun G i a b nx ls st h => match st with
      | u :: (0, j) :: (2, r) :: rest => match e_get h r with
        | some (1, t, l) => bif Nat.beq t i && (Nat.blt j 65536 && (Nat.blt j l.length && (e_fit G i u && e_obj h i u))) then e_go nx ls rest (e_set h r (1, t, e_set l j u)) else none
        | _ => none
      | _ => none
def e_s15 : eF := fun G i a b nx ls st h => bif Nat.blt i 5 then (match st with
        | (5, y) :: (5, x) :: rest => match e_lbin i x y with
          | some v => e_go nx ls (v :: rest) h
          | none => none
        | _ => none)
      else (match i with
      | 5 => match st with
        | (0, x) :: rest => e_go nx ls ((5, e_i2l x) :: rest) h
        | _ => none
      | 6 => match st with
        | (0, 0) :: rest => e_go nx ls ((7, 0) :: rest) h
        | _ => none
      | 7 => match st with
        | (7, 1114636288) :: (7, 0) :: rest => e_go nx ls ((7, 0) :: rest) h
        | _ => none
      | 8 => match st with
        | (7, 0) :: rest => e_go nx ls ((6, 0) :: rest) h
        | _ => none
      | 9 => match st with
        | (6, 0) :: (6, 0) :: rest => e_go nx ls ((0, 0) :: rest) h
        | _ => none
      | _ => none)
def e_s16 : eF := fun G i a b nx ls st h => match i with
      | 0 => match st with
        | (0, n) :: rest => bif Nat.blt n 65536 then some (nx, ls, (2, h.length) :: rest, h ++ [(1, a, e_rep (e_dflt a) n)], 1, n, 0, 0) else none
        | _ => none
      | 1 => match st with
        | (0, n) :: rest => bif Nat.blt n 65536 then some (nx, ls, (2, h.length) :: rest, h ++ [(1, 7, e_rep (1, 0) n)], 1, n, 0, 0) else none
        | _ => none
      | 2 => match st with
        | (0, k) :: (0, n) :: rest => bif Nat.blt n 65536 && Nat.blt k 65536 then some (nx, ls, (2, h.length) :: rest, h ++ ((1, 6, e_rows (h.length + 1) n) :: e_rep (1, 0, e_rep (0, 0) k) n), 1 + n, n + n * k, 0, 0) else none
        | _ => none
      | _ => none
def e_s17 : eF := fun G i a b nx ls st h => match i with
      | 0 => match st with
        | (2, q) :: rest => match e_get h q with
          | some (1, 7, _) => some (nx, ls, (3, 8) :: rest, h, 0, 0, 1, 14 + e_cat rest)
          | _ => none
        | _ => none
      | 1 => match st with
        | (0, n) :: (0, 0) :: (2, q) :: (0, 0) :: (2, q0) :: rest => match e_get h q0, e_get h q with
          | some (1, 7, el), some (1, 7, fl) => bif Nat.ble n el.length && (Nat.ble n fl.length && (Nat.blt n 65536 && e_allobj h el)) then some (nx, ls, rest, e_set h q (1, 7, el.take n ++ fl.drop n), 0, 0, 1, 60 + e_cat rest) else none
          | _, _ => none
        | _ => none
      | _ => none
def e_s18 : eF := fun G i a b nx ls st h => match st with
      | (0, j) :: (2, q) :: rest => bif e_mdB G && (e_mdH h q && (Nat.blt j 60 && Nat.ble (e_cat rest) 8)) then some (nx, ls, (4, 200 + j) :: rest, h, 0, 0, 3, 100 + e_cat rest) else none
      | _ => none
def e_sn : eF := fun _ _ _ _ _ _ _ _ => none
def e_dis (g : Nat) : eF := match g with
  | 0 => e_s0
  | 1 => e_s1
  | 2 => e_s2
  | 3 => e_s3
  | 4 => e_s4
  | 5 => e_s5
  | 6 => e_s6
  | 7 => e_s7
  | 8 => e_s8
  | 9 => e_s9
  | 10 => e_s10
  | 11 => e_sn
  | 12 => e_sn
  | 13 => e_sn
  | 14 => e_sn
  | 15 => e_s15
  | 16 => e_s16
  | 17 => e_s17
  | 18 => e_s18
  | _ => e_sn
def e_step (G : eG) (o : eO) (ls : eL) (st : List eV) (h : eH) : Option eS := match o with
  | (g, i, a, b, nx) => e_dis g G i a b nx ls st h
/-- a reference to an object of class c -/
def e_isC (h : eH) (v : eV) (c : Nat) : Bool := match e_cls h v with
  | some c' => Nat.beq c' c
  | none => false
def e_recvV (a : Nat) (h : eH) : List eV → Bool
  | v :: _ => e_isC h v (pg_cl a)
  | [] => false
def e_recvN : List eV → Bool
  | (2, _) :: _ => true
  | _ => false
def e_recv (i : Nat) (a : Nat) (h : eH) (as : List eV) : Bool := match i with
  | 0 => true
  | 1 => e_recvN as
  | 4 => true
  | _ => e_recvV a h as
/-- an end: 0 returned (st: the value), 1 thrown (x: the class), 2 stopped (x: the pc) -/
abbrev eR : Type := Nat × Nat × eL × List eV × eH × Nat × Nat × Nat × Nat
def e_max (a b : Nat) : Nat := bif Nat.ble a b then b else a
def e_rk (i : Nat) (v : eV) : Bool := match i with
  | 1 => e_isI v
  | 2 => Nat.beq v.1 5
  | 3 => Nat.beq v.1 6
  | 4 => e_isR v
  | 5 => Nat.beq v.1 7
  | 6 => Nat.beq v.1 0 && Nat.blt v.2 2
  | 7 => Nat.beq v.1 0 && Nat.blt v.2 65536
  | 8 => Nat.beq v.1 0 && Nat.blt v.2 128
  | _ => false
/-- a call whose end is known: method, arguments, world, where to look first (a cell's field and its number); its value, its world, its needs -/
abbrev eK : Type := Nat × List eV × eH × Nat × Nat × Nat × List eV × eH × Nat × Nat × Nat × Nat
def q_v (u v : eV) : Bool := Nat.beq u.1 v.1 && Nat.beq u.2 v.2
def q_s : List eV → List eV → Bool
  | [], [] => true
  | u :: t, v :: t' => q_v u v && q_s t t'
  | _, _ => false
def q_h : eH → eH → Bool
  | [], [] => true
  | (a, b, l) :: t, (a', b', l') :: t' => Nat.beq a a' && (Nat.beq b b' && (q_s l l' && q_h t t'))
  | _, _ => false
def k_key (h : eH) (q j n : Nat) : Bool := match e_get h q with
  | some (_, _, l) => e_is (0, n) (e_get l j)
  | none => false
def k_look (K : List eK) (a : Nat) (as : List eV) (h : eH) : Option eR := match K with
  | [] => none
  | (a', as', h0, q, j, n, vs, h1, c, s, f, w) :: t => bif Nat.beq a a' && (k_key h q j n && (q_s as as' && q_h h h0)) then some (0, 0, [], vs, h1, c, s, f, w) else k_look t a as h
def k_or : Option eR → Option eR → Option eR
  | some r, _ => some r
  | none, x => x
abbrev eRec : Type := Nat → Nat → eL → List eV → eH → Nat → Nat → Nat → Nat → Option eR
def e_call2 (rc : eRec) (i a nx y pc : Nat) (ls : eL) (rest : List eV) (c s f w : Nat) (r : Option eR) : Option eR := match r with
  | some (0, _, _, vs, h', c', s', f', w') => bif Nat.blt vs.length 2 then e_z c' (e_z s' (bif Nat.ble (f' + 1) f && Nat.ble (19 + pg_ml a + w') w then rc y nx ls (vs ++ rest) h' c s f w else rc y nx ls (vs ++ rest) h' (c + c') (s + s') (e_max f (f' + 1)) (e_max w (19 + pg_ml a + w'))) (rc y nx ls (vs ++ rest) h' (c + c') (s + s') (e_max f (f' + 1)) (e_max w (19 + pg_ml a + w')))) (rc y nx ls (vs ++ rest) h' (c + c') (s + s') (e_max f (f' + 1)) (e_max w (19 + pg_ml a + w'))) else none
  | some (1, E, _, _, h', c', s', f', w') => bif Nat.beq i 0 || Nat.beq i 2 then (match pg_hn y pc E with
    | some (k, nx') => rc y nx' (e_drop1 k ls) [] h' (c + c') (s + s') (e_max f (f' + 1)) (e_max w (19 + pg_ml a + w'))
    | none => bif pg_nt y then some (1, E, [], [], h', c + c', s + s', e_max f (f' + 1), e_max w (19 + pg_ml a + w')) else none) else none
  | _ => none
def e_call1 (K : List eK) (rc : eRec) (i a nx y pc : Nat) (ls : eL) (as rest : List eV) (h : eH) (c s f w : Nat) : Option eR :=
  bif e_recv i a h as && (Nat.ble (e_cat rest) 8 && Nat.ble (e_cat as) (pg_ml a)) then e_call2 rc i a nx y pc ls rest c s f w (k_or (k_look K a as h) (rc a 0 (e_args 0 as) [] h 0 0 0 0)) else none
def e_call (K : List eK) (rc : eRec) (i a b nx y pc : Nat) (ls : eL) (st : List eV) (h : eH) (c s f w : Nat) : Option eR :=
  bif Nat.ble b st.length then e_call1 K rc i a nx y pc ls (st.take b).reverse (st.drop b) h c s f w else none
def e_rets (i : Nat) (st : List eV) (h : eH) (c s f w : Nat) : Option eR := match i with
  | 0 => match st with
    | [] => some (0, 0, [], [], h, c, s, f, w)
    | _ => none
  | _ => match st with
    | [v] => bif e_rk i v then some (0, 0, [], [v], h, c, s, f, w) else none
    | _ => none
def e_go2 (rc : eRec) (y c s f w : Nat) (r : Option eS) : Option eR := match r with
  | some (nx, ls', st', h', dc, ds, df, dw) => e_z dc (e_z ds (e_z df (e_z dw (rc y nx ls' st' h' c s f w) (rc y nx ls' st' h' (c + dc) (s + ds) (e_max f df) (e_max w dw))) (rc y nx ls' st' h' (c + dc) (s + ds) (e_max f df) (e_max w dw))) (rc y nx ls' st' h' (c + dc) (s + ds) (e_max f df) (e_max w dw))) (rc y nx ls' st' h' (c + dc) (s + ds) (e_max f df) (e_max w dw))
  | none => none
def e_thr (E y : Nat) (st : List eV) (h : eH) (c s f w : Nat) : Option eR := bif pg_nt y then some (1, E, [], [], h, c + 1, s + 6, e_max f 8, e_max w (e_cat st + 120)) else none
def e_nx (G : eG) (K : List eK) (rc : eRec) (g i a b nx y pc : Nat) (ls : eL) (st : List eV) (h : eH) (c s f w : Nat) : Option eR := match g with
  | 11 => e_call K rc i a b nx y pc ls st h c s f w
  | 12 => e_rets i st h c s f w
  | 13 => e_thr a y st h c s f w
  | 14 => some (2, pc, ls, st, h, c, s, f, w)
  | g => e_go2 rc y c s f w (e_dis g G i a b nx ls st h)
def e_at (G : eG) (K : List eK) (rc : eRec) (o : eO) (y pc : Nat) (ls : eL) (st : List eV) (h : eH) (c s f w : Nat) : Option eR := match o with
  | (g, i, a, b, nx) => e_nx G K rc g i a b nx y pc ls st h c s f w
def e_run (G : eG) (K : List eK) (n : Nat) : eRec := Nat.rec (motive := fun _ => eRec) (fun _ _ _ _ _ _ _ _ _ => none) (fun _ ih y pc ls st h c s f w => e_at G K ih (pg_op y pc) y pc ls st h c s f w) n
end
