/-! tables, by program: the classes, their fields: which are references, which hold 0 or 1; the reference's rows and their lengths -/
abbrev CL : List vw_C := [(RJ0, TJ0, 4), (RJ4, TJ4, 4), (RJx4a65c, TJx4a65c, 3), (RX0, TX0, 13), (RX1, TX1, 4), (RX2, TX2, 6), (RX3, TX3, 6), (RX4, TX4, 12), (RX5, TX5, 5), (RX6, TX6, 2), (RX7, TX7, 3), (RX8, TX8, 2), (RX9, TX9, 6), (RX10, TX10, 8), (RX11, TX11, 10), (RX12, TX12, 72)]
def NF : Nat → Nat := fun k => [4, 4, 3, 13, 4, 6, 6, 12, 5, 2, 3, 2, 6, 8, 10, 72].getD k 0
def rtab : List Nat := [302, 305, 306, 312, 500, 501, 602, 700, 707, 801, 900, 1000, 1001, 1100, 1201, 1300, 1304, 1400, 1401, 1402, 1403, 1404, 1405, 1406]
def isR (f : Nat) : Bool := rtab.elem f
def ztab : List Nat := [309, 401, 502, 702, 703, 704, 709, 710, 711, 804, 1202, 1303, 1306, 1307, 1407]
def isZ (f : Nat) : Bool := ztab.elem f
def mtab : List Nat := [0, 0, 0, 0, 16, 16, 16, 0, 24, 24, 24, 24, 24, 24, 24, 24, 24, 24, 24, 24, 24, 24, 24, 24, 0, 8, 8, 8, 0, 40, 40, 240, 240, 2880, 0, 12, 12, 12, 12, 12, 12, 12, 12, 12, 0, 0, 6, 6, 6, 6, 6, 6, 6, 0, 0, 256, 256, 256, 256, 256, 256, 0, 0, 0, 0, 0, 0, 0, 0, 0, 8, 0]
def mN (k : Nat) : Nat := mtab.getD k 0
def mZ (k : Nat) : Bool := [2, 6, 15, 38, 49, 57, 63, 64, 65, 67, 68, 69].elem k
def mS (k : Nat) : Bool := [0, 1, 2, 3, 7, 24, 28, 34, 44, 45, 53, 54, 61, 62, 63, 64, 65, 66, 67, 68, 69, 71].elem k
