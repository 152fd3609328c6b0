theorem cw5 : lw_tbl[120]? = some (Cond.code cM5.1 cM5.2.1 cM5.2.2.1 cM5.2.2.2.1) := by decide +kernel
theorem cw100 : lw_tbl[791]? = some (Cond.code cM100.1 cM100.2.1 cM100.2.2.1 cM100.2.2.2.1) := by decide +kernel
theorem cw200 : lw_tbl[1306]? = some (Cond.code cM200.1 cM200.2.1 cM200.2.2.1 cM200.2.2.2.1) := by decide +kernel
