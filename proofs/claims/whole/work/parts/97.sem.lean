theorem sem : SEM := sem_0
