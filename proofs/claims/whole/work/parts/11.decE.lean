/-! printed by wip/whole/gen_dec.py: decode rows -/

