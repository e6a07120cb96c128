abbrev St : Type := (Nat → Nat) × (Nat) × (Nat → Nat) × (Nat → Nat) × (Bool) × (Nat) × (Nat) × (Nat) × (Nat) × (Nat) × (Nat → Nat) × (Nat → Nat) × (Nat) × (Nat) × (Bool) × (Bool) × (Bool) × (Bool) × (Bool) × (Bool) × (Nat) × (Nat)
def im_ (S : St) : Nat → Nat := S.1
def bk_ (S : St) : Nat := S.2.1
def ra_ (S : St) : Nat → Nat := S.2.2.1
def up_ (S : St) : Nat → Nat := S.2.2.2.1
def on_ (S : St) : Bool := S.2.2.2.2.1
def lo_ (S : St) : Nat := S.2.2.2.2.2.1
def hi_ (S : St) : Nat := S.2.2.2.2.2.2.1
def mo_ (S : St) : Nat := S.2.2.2.2.2.2.2.1
def ma_ (S : St) : Nat := S.2.2.2.2.2.2.2.2.1
def li_ (S : St) : Nat := S.2.2.2.2.2.2.2.2.2.1
def rg_ (S : St) : Nat → Nat := S.2.2.2.2.2.2.2.2.2.2.1
def sb_ (S : St) : Nat → Nat := S.2.2.2.2.2.2.2.2.2.2.2.1
def st_ (S : St) : Nat := S.2.2.2.2.2.2.2.2.2.2.2.2.1
def pl_ (S : St) : Nat := S.2.2.2.2.2.2.2.2.2.2.2.2.2.1
def zf_ (S : St) : Bool := S.2.2.2.2.2.2.2.2.2.2.2.2.2.2.1
def nf_ (S : St) : Bool := S.2.2.2.2.2.2.2.2.2.2.2.2.2.2.2.1
def hf_ (S : St) : Bool := S.2.2.2.2.2.2.2.2.2.2.2.2.2.2.2.2.1
def cf_ (S : St) : Bool := S.2.2.2.2.2.2.2.2.2.2.2.2.2.2.2.2.2.1
def en_ (S : St) : Bool := S.2.2.2.2.2.2.2.2.2.2.2.2.2.2.2.2.2.2.1
def so_ (S : St) : Bool := S.2.2.2.2.2.2.2.2.2.2.2.2.2.2.2.2.2.2.2.1
def co_ (S : St) : Nat := S.2.2.2.2.2.2.2.2.2.2.2.2.2.2.2.2.2.2.2.2.1
def sc_ (S : St) : Nat := S.2.2.2.2.2.2.2.2.2.2.2.2.2.2.2.2.2.2.2.2.2
def s_im (S : St) (x : Nat → Nat) : St := (x, bk_ S, ra_ S, up_ S, on_ S, lo_ S, hi_ S, mo_ S, ma_ S, li_ S, rg_ S, sb_ S, st_ S, pl_ S, zf_ S, nf_ S, hf_ S, cf_ S, en_ S, so_ S, co_ S, sc_ S)
def s_bk (S : St) (x : Nat) : St := (im_ S, x, ra_ S, up_ S, on_ S, lo_ S, hi_ S, mo_ S, ma_ S, li_ S, rg_ S, sb_ S, st_ S, pl_ S, zf_ S, nf_ S, hf_ S, cf_ S, en_ S, so_ S, co_ S, sc_ S)
def s_ra (S : St) (x : Nat → Nat) : St := (im_ S, bk_ S, x, up_ S, on_ S, lo_ S, hi_ S, mo_ S, ma_ S, li_ S, rg_ S, sb_ S, st_ S, pl_ S, zf_ S, nf_ S, hf_ S, cf_ S, en_ S, so_ S, co_ S, sc_ S)
def s_up (S : St) (x : Nat → Nat) : St := (im_ S, bk_ S, ra_ S, x, on_ S, lo_ S, hi_ S, mo_ S, ma_ S, li_ S, rg_ S, sb_ S, st_ S, pl_ S, zf_ S, nf_ S, hf_ S, cf_ S, en_ S, so_ S, co_ S, sc_ S)
def s_on (S : St) (x : Bool) : St := (im_ S, bk_ S, ra_ S, up_ S, x, lo_ S, hi_ S, mo_ S, ma_ S, li_ S, rg_ S, sb_ S, st_ S, pl_ S, zf_ S, nf_ S, hf_ S, cf_ S, en_ S, so_ S, co_ S, sc_ S)
def s_lo (S : St) (x : Nat) : St := (im_ S, bk_ S, ra_ S, up_ S, on_ S, x, hi_ S, mo_ S, ma_ S, li_ S, rg_ S, sb_ S, st_ S, pl_ S, zf_ S, nf_ S, hf_ S, cf_ S, en_ S, so_ S, co_ S, sc_ S)
def s_hi (S : St) (x : Nat) : St := (im_ S, bk_ S, ra_ S, up_ S, on_ S, lo_ S, x, mo_ S, ma_ S, li_ S, rg_ S, sb_ S, st_ S, pl_ S, zf_ S, nf_ S, hf_ S, cf_ S, en_ S, so_ S, co_ S, sc_ S)
def s_mo (S : St) (x : Nat) : St := (im_ S, bk_ S, ra_ S, up_ S, on_ S, lo_ S, hi_ S, x, ma_ S, li_ S, rg_ S, sb_ S, st_ S, pl_ S, zf_ S, nf_ S, hf_ S, cf_ S, en_ S, so_ S, co_ S, sc_ S)
def s_ma (S : St) (x : Nat) : St := (im_ S, bk_ S, ra_ S, up_ S, on_ S, lo_ S, hi_ S, mo_ S, x, li_ S, rg_ S, sb_ S, st_ S, pl_ S, zf_ S, nf_ S, hf_ S, cf_ S, en_ S, so_ S, co_ S, sc_ S)
def s_li (S : St) (x : Nat) : St := (im_ S, bk_ S, ra_ S, up_ S, on_ S, lo_ S, hi_ S, mo_ S, ma_ S, x, rg_ S, sb_ S, st_ S, pl_ S, zf_ S, nf_ S, hf_ S, cf_ S, en_ S, so_ S, co_ S, sc_ S)
def s_rg (S : St) (x : Nat → Nat) : St := (im_ S, bk_ S, ra_ S, up_ S, on_ S, lo_ S, hi_ S, mo_ S, ma_ S, li_ S, x, sb_ S, st_ S, pl_ S, zf_ S, nf_ S, hf_ S, cf_ S, en_ S, so_ S, co_ S, sc_ S)
def s_sb (S : St) (x : Nat → Nat) : St := (im_ S, bk_ S, ra_ S, up_ S, on_ S, lo_ S, hi_ S, mo_ S, ma_ S, li_ S, rg_ S, x, st_ S, pl_ S, zf_ S, nf_ S, hf_ S, cf_ S, en_ S, so_ S, co_ S, sc_ S)
def s_st (S : St) (x : Nat) : St := (im_ S, bk_ S, ra_ S, up_ S, on_ S, lo_ S, hi_ S, mo_ S, ma_ S, li_ S, rg_ S, sb_ S, x, pl_ S, zf_ S, nf_ S, hf_ S, cf_ S, en_ S, so_ S, co_ S, sc_ S)
def s_pl (S : St) (x : Nat) : St := (im_ S, bk_ S, ra_ S, up_ S, on_ S, lo_ S, hi_ S, mo_ S, ma_ S, li_ S, rg_ S, sb_ S, st_ S, x, zf_ S, nf_ S, hf_ S, cf_ S, en_ S, so_ S, co_ S, sc_ S)
def s_zf (S : St) (x : Bool) : St := (im_ S, bk_ S, ra_ S, up_ S, on_ S, lo_ S, hi_ S, mo_ S, ma_ S, li_ S, rg_ S, sb_ S, st_ S, pl_ S, x, nf_ S, hf_ S, cf_ S, en_ S, so_ S, co_ S, sc_ S)
def s_nf (S : St) (x : Bool) : St := (im_ S, bk_ S, ra_ S, up_ S, on_ S, lo_ S, hi_ S, mo_ S, ma_ S, li_ S, rg_ S, sb_ S, st_ S, pl_ S, zf_ S, x, hf_ S, cf_ S, en_ S, so_ S, co_ S, sc_ S)
def s_hf (S : St) (x : Bool) : St := (im_ S, bk_ S, ra_ S, up_ S, on_ S, lo_ S, hi_ S, mo_ S, ma_ S, li_ S, rg_ S, sb_ S, st_ S, pl_ S, zf_ S, nf_ S, x, cf_ S, en_ S, so_ S, co_ S, sc_ S)
def s_cf (S : St) (x : Bool) : St := (im_ S, bk_ S, ra_ S, up_ S, on_ S, lo_ S, hi_ S, mo_ S, ma_ S, li_ S, rg_ S, sb_ S, st_ S, pl_ S, zf_ S, nf_ S, hf_ S, x, en_ S, so_ S, co_ S, sc_ S)
def s_en (S : St) (x : Bool) : St := (im_ S, bk_ S, ra_ S, up_ S, on_ S, lo_ S, hi_ S, mo_ S, ma_ S, li_ S, rg_ S, sb_ S, st_ S, pl_ S, zf_ S, nf_ S, hf_ S, cf_ S, x, so_ S, co_ S, sc_ S)
def s_so (S : St) (x : Bool) : St := (im_ S, bk_ S, ra_ S, up_ S, on_ S, lo_ S, hi_ S, mo_ S, ma_ S, li_ S, rg_ S, sb_ S, st_ S, pl_ S, zf_ S, nf_ S, hf_ S, cf_ S, en_ S, x, co_ S, sc_ S)
def s_co (S : St) (x : Nat) : St := (im_ S, bk_ S, ra_ S, up_ S, on_ S, lo_ S, hi_ S, mo_ S, ma_ S, li_ S, rg_ S, sb_ S, st_ S, pl_ S, zf_ S, nf_ S, hf_ S, cf_ S, en_ S, so_ S, x, sc_ S)
def s_sc (S : St) (x : Nat) : St := (im_ S, bk_ S, ra_ S, up_ S, on_ S, lo_ S, hi_ S, mo_ S, ma_ S, li_ S, rg_ S, sb_ S, st_ S, pl_ S, zf_ S, nf_ S, hf_ S, cf_ S, en_ S, so_ S, co_ S, x)
def bI (b : Bool) : Int32 := if b then 1 else 0
def bN (b : Bool) : Nat := if b then 1 else 0
def mm_ (S : St) (j : Nat) : Nat := if j < 512 then im_ S j else if j < 640 then ra_ S (j - 512) else if j < 702 then up_ S (j - 640) else if j = 702 then ma_ S else if j = 703 then li_ S else if j = 704 then 255 else 0
def e_k_ce (S : St) : Nat → Int32 := fun j => nI (im_ S j)
def e_k_bc (S : St) : Int32 := nI (bk_ S)
def e_m_ra (S : St) : Nat → Int32 := fun j => nI (ra_ S j)
def e_m_up (S : St) : Nat → Int32 := fun j => nI (up_ S j)
def e_m_on (S : St) : Int32 := bI (on_ S)
def e_m_lo (S : St) : Int32 := nI (lo_ S)
def e_m_hi (S : St) : Int32 := nI (hi_ S)
def e_m_mo (S : St) : Int32 := nI (mo_ S)
def e_m_ma (S : St) : Int32 := nI (ma_ S)
def e_m_li (S : St) : Int32 := nI (li_ S)
def e_n_rg (S : St) : Nat → Int32 := fun j => nI (rg_ S j)
def e_n_sb (S : St) : Nat → Int32 := fun j => nI (sb_ S j)
def e_n_st (S : St) : Int32 := nI (st_ S)
def e_n_pl (S : St) : Int32 := nI (pl_ S)
def e_n_z (S : St) : Int32 := bI (zf_ S)
def e_n_n (S : St) : Int32 := bI (nf_ S)
def e_n_h (S : St) : Int32 := bI (hf_ S)
def e_n_c (S : St) : Int32 := bI (cf_ S)
def e_n_en (S : St) : Int32 := bI (en_ S)
def e_n_so (S : St) : Int32 := bI (so_ S)
def e_n_co (S : St) : Int32 := nI (co_ S)
def e_n_sc (S : St) : Int32 := nI (sc_ S)
def e_q_banks (S : St) : Int32 := nI (bk_ S)
def e_q_memory (S : St) : Nat → Int32 := fun j => nI (mm_ S j)
def e_q_register (S : St) : Nat → Int32 := fun j => nI (rg_ S j)
def e_q_stack (S : St) : Int32 := nI (st_ S)
def e_q_place (S : St) : Int32 := nI (pl_ S)
def e_q_zero (S : St) : Int32 := bI (zf_ S)
def e_q_less (S : St) : Int32 := bI (nf_ S)
def e_q_half (S : St) : Int32 := bI (hf_ S)
def e_q_carry (S : St) : Int32 := bI (cf_ S)
def e_q_enabled (S : St) : Int32 := bI (en_ S)
def e_q_soon (S : St) : Int32 := bI (so_ S)
def e_q_ram (S : St) : Int32 := bI (on_ S)
def e_q_low (S : St) : Int32 := nI (lo_ S)
def e_q_top (S : St) : Int32 := nI (hi_ S)
def e_q_mode (S : St) : Int32 := nI (mo_ S)
def e_q_state (S : St) : Int32 := nI (co_ S)
def e_q_sent (S : St) : Int32 := nI (sc_ S)
def e_q_out (S : St) : Nat → Int32 := fun j => nI (sb_ S j)
/-! the machine in numbers -/
def fu (f : Nat → Nat) (k x : Nat) : Nat → Nat := fun j => if j = k then x else f j
def xrd (S : St) (a : Nat) : Nat :=
  if a < 64 then im_ S (64 * ((if mo_ S = 1 then 4 * hi_ S else 0) % bk_ S) + a)
  else if a < 128 then im_ S (64 * ((4 * hi_ S + lo_ S) % bk_ S) + (a - 64))
  else if a < 192 then (if on_ S then ra_ S ((if mo_ S = 1 then 64 * hi_ S else 0) + (a - 128)) else 255)
  else if a < 254 then up_ S (a - 192)
  else if a = 254 then ma_ S else li_ S
def xwr (S : St) (a b : Nat) : St :=
  if a < 32 then s_on S (decide (b % 16 = 10))
  else if a < 64 then s_lo S (if b % 4 = 0 then 1 else b % 4)
  else if a < 96 then s_hi S (b % 2)
  else if a < 128 then s_mo S (b % 2)
  else if a < 192 then (if on_ S then s_ra S (fu (ra_ S) ((if mo_ S = 1 then 64 * hi_ S else 0) + (a - 128)) b) else S)
  else if a < 254 then s_up S (fu (up_ S) (a - 192) b)
  else if a = 254 then s_ma S (b % 16) else s_li S (b % 16)
def xget (S : St) (r : Nat) : Nat := if r = 6 then xrd S (rg_ S 5) else rg_ S r
def xset (S : St) (r v : Nat) : St := if r = 6 then xwr S (rg_ S 5) v else s_rg S (fu (rg_ S) r v)
/-- behind the byte that was taken; the byte is xrd S (pl_ S) -/
def xnx (S : St) : St := s_pl S ((pl_ S + 1) % 256)
def xpush (S : St) (b : Nat) : St := xwr (s_st S ((st_ S + 255) % 256)) ((st_ S + 255) % 256) b
/-- behind the byte that was pulled; the byte is xrd S (st_ S) -/
def xpop (S : St) : St := s_st S ((st_ S + 1) % 256)
def xfl (S : St) (z n h c : Bool) : St := s_zf (s_nf (s_hf (s_cf S c) h) n) z
def xA (S : St) (v : Nat) : St := s_rg S (fu (rg_ S) 7 v)
def xsum (a b m : Nat) : Nat := (a + b + m) % 256
def xsumF (S : St) (a b m : Nat) : St := xfl S (decide (xsum a b m = 0)) false (decide (15 < a % 16 + b % 16 + m)) (decide (255 < a + b + m))
def xdif (a b m : Nat) : Nat := (a + 512 - b - m) % 256
def xdifF (S : St) (a b m : Nat) : St := xfl S (decide (xdif a b m = 0)) true (decide (a % 16 < b % 16 + m)) (decide (a < b + m))
def xcalc (S : St) (k b : Nat) : St :=
  let a := rg_ S 7
  if k = 0 then xA (xsumF S a b 0) (xsum a b 0)
  else if k = 1 then xA (xsumF S a b (bN (cf_ S))) (xsum a b (bN (cf_ S)))
  else if k = 2 then xA (xdifF S a b 0) (xdif a b 0)
  else if k = 3 then xA (xdifF S a b (bN (cf_ S))) (xdif a b (bN (cf_ S)))
  else if k = 4 then xA (xfl S (decide (a &&& b = 0)) false true false) (a &&& b)
  else if k = 5 then xA (xfl S (decide (a ^^^ b = 0)) false false false) (a ^^^ b)
  else if k = 6 then xA (xfl S (decide (a ||| b = 0)) false false false) (a ||| b)
  else xdifF S a b 0
def xinc (v : Nat) : Nat := (v + 1) % 256
def xincF (S : St) (v : Nat) : St := xfl S (decide (xinc v = 0)) false (decide (v % 16 = 15)) (cf_ S)
def xdec (v : Nat) : Nat := (v + 255) % 256
def xdecF (S : St) (v : Nat) : St := xfl S (decide (xdec v = 0)) true (decide (v % 16 = 0)) (cf_ S)
def xswp (v : Nat) : Nat := v % 16 * 16 + v / 16
def xswpF (S : St) (v : Nat) : St := xfl S (decide (v = 0)) false false false
def xadj (S : St) : St :=
  let a := rg_ S 7
  let d := if hf_ S || (!nf_ S && decide (9 < a % 16)) then 6 else 0
  let m := cf_ S || (!nf_ S && decide (153 < a))
  let e := if m then d + 96 else d
  let v := if nf_ S then (a + 256 - e) % 256 else (a + e) % 256
  xA (xfl S (decide (v = 0)) (nf_ S) false m) v
def xout (k v : Nat) : Nat := if k = 0 ∨ k = 2 ∨ k = 4 then v / 128 else v % 2
def xin (S : St) (k v : Nat) : Nat := if k < 2 then xout k v else if k < 4 then bN (cf_ S) else if k = 5 then v / 128 else 0
def xshf (S : St) (k v : Nat) : Nat := if k = 0 ∨ k = 2 ∨ k = 4 then v * 2 % 256 + xin S k v else v / 2 + 128 * xin S k v
def xshfF (S : St) (k v : Nat) : St := xfl S (decide (xshf S k v = 0)) false false (decide (xout k v = 1))
def xbits (S : St) (n : Nat) : St :=
  let r := n % 8
  let k := n / 8
  let v := xget S r
  if k < 7 then xset (xshfF S k v) r (xshf S k v)
  else if k = 7 then S
  else if k < 16 then xfl S (decide (v / 2 ^ (k % 8) % 2 = 0)) false true (cf_ S)
  else if k < 24 then xset S r (v - v / 2 ^ (k % 8) % 2 * 2 ^ (k % 8))
  else xset S r (v + (1 - v / 2 ^ (k % 8) % 2) * 2 ^ (k % 8))
def xend (S : St) (k : Nat) : St := s_pl (s_co S k) ((pl_ S + 255) % 256)
def xsend (S : St) : St := s_sc (if sc_ S < 100 then s_sb S (fu (sb_ S) (sc_ S) (rg_ S 7)) else S) (sc_ S + 1)
def xone (S : St) (op : Nat) : St :=
  if op = 0 then S
  else if op = 1 then xend S 1
  else if op = 2 then xend S 2
  else if op = 3 then s_en S false
  else if op = 4 then s_so S true
  else if op = 5 then s_en (s_pl (xpop S) (xrd S (st_ S))) true
  else if op = 6 then xadj S
  else if op = 7 then xA (xfl S (zf_ S) true true (cf_ S)) (255 - rg_ S 7)
  else if op = 8 then xfl S (zf_ S) false false true
  else if op = 9 then xfl S (zf_ S) false false (!cf_ S)
  else if op = 10 then s_pl (xpop S) (xrd S (st_ S))
  else if op = 11 then xsend S
  else xend S 3
def xtwo (S : St) (g r : Nat) : St :=
  if g = 2 then xset (xincF S (xget S r)) r (xinc (xget S r))
  else if g = 3 then xset (xdecF S (xget S r)) r (xdec (xget S r))
  else if g = 4 then xpush S (xget S r)
  else if g = 5 then xset (xpop S) r (xrd S (st_ S))
  else if g = 6 then xset (xnx S) r (xrd S (pl_ S))
  else xset (xswpF S (xget S r)) r (xswp (xget S r))
def xholds (S : St) (w : Nat) : Bool := if w = 0 then true else if w = 1 then !zf_ S else if w = 2 then zf_ S else if w = 3 then !cf_ S else cf_ S
def xjump (S : St) (k w : Nat) : St :=
  if 4 < w then xend S 3
  else if k = 2 then (if xholds S w then s_pl (xpop S) (xrd S (st_ S)) else S)
  else
    let n := xrd S (pl_ S)
    let T := xnx S
    if !xholds S w then T
    else if k = 0 then s_pl T n
    else if k = 1 then s_pl (xpush T (pl_ T)) n
    else s_pl T ((pl_ T + n) % 256)
def xobey (S : St) (op : Nat) : St :=
  if op < 16 then xone S op
  else if op < 64 then xtwo S (op / 8) (op % 8)
  else if op < 128 then xset S (op / 8 % 8) (xget S (op % 8))
  else if op < 192 then xcalc S (op / 8 % 8) (xget S (op % 8))
  else if op < 224 then xjump S (op / 8 % 4) (op % 8)
  else if op < 232 then xcalc (xnx S) (op % 8) (xrd S (pl_ S))
  else if op = 240 then xbits (xnx S) (xrd S (pl_ S))
  else xend S 3
/-- the lowest line that asks; 4: none -/
def xask (S : St) : Nat := if li_ S &&& ma_ S &&& 1 ≠ 0 then 0 else if li_ S &&& ma_ S &&& 2 ≠ 0 then 1 else if li_ S &&& ma_ S &&& 4 ≠ 0 then 2 else if li_ S &&& ma_ S &&& 8 ≠ 0 then 3 else 4
def xint (S : St) (k : Nat) : St := s_pl (xpush (s_en (s_li S (li_ S - 2 ^ k)) false) (pl_ S)) (16 + 4 * k)
def xstep (S : St) : St :=
  if co_ S = 1 then (if xask S = 4 then S else s_pl (s_co S 0) ((pl_ S + 1) % 256))
  else if en_ S = true ∧ xask S ≠ 4 then xint S (xask S)
  else
    let T := xobey (xnx (s_so S false)) (xrd S (pl_ S))
    s_en T (en_ T || so_ S)
def xbegin (S : St) : St := (im_ S, bk_ S, (fun j => if j < 128 then 0 else ra_ S j), (fun j => if j < 62 then 0 else up_ S j), false, 1, 0, 0, 0, 0, (fun j => if j < 8 then 0 else rg_ S j), sb_ S, 240, 0, false, false, false, false, false, false, 0, 0)
