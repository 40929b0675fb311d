/-- the tables' words that hold at every call -/
def gtb : List Cond := lw_tbl.filter goodWord
